theorem sp_X3_ruleOf_f (L : Nat) (xs : Nat → Int32) (sio : Option Nat) (d : Nat) (dt : Nat → Nat → Int) (hI : InvC dt) (F : Nat → Int) (fa : Nat → Int) (l : Int) (p1 : Int) (h_p1 : 0 ≤ p1 ∧ p1 ≤ 791) (h_p0 : WGT (dt 72) (dt 71 1) F fa l) (h_p1 : p1 < WS F fa l 8) : GO (am_XX L xs sio) (d) 46 0 [some (.inr (.inr (some 71))), some (.inl p1), none, none] [] (SH, dt) (fun r w2 => w2 = (SH, dt) ∧ ((∃ v : Int, r = some (.inl v) ∧ (0 ≤ v ∧ v ≤ 7) ∧ (v = RLF F fa l p1 8)))) := by
  refine go_toq PM46 (k := 4) (pc' := 4) (L' := [some (.inr (.inr (some 71))), some (.inl p1), some (.inl 0), some (.inl 0)]) (st' := []) (w' := (SH, dt)) rfl ?_
  have loop10 : ∀ (k_ : Nat) (l4_2 : Int) (l4_3 : Int) (i5 : 0 ≤ l4_2 ∧ l4_2 ≤ 792) (i6 : 0 ≤ l4_3 ∧ l4_3 ≤ 8) (i7 : l4_2 = WS F fa l l4_3.toNat) (i8 : l4_2 ≤ p1) (i9 : l4_2 ≤ 99 * l4_3), (9 - l4_3).toNat < k_ → GO (am_XX L xs sio) (d) 46 4 [some (.inr (.inr (some 71))), some (.inl p1), some (.inl l4_2), some (.inl l4_3)] [] (SH, dt) (fun r w2 => w2 = (SH, dt) ∧ ((∃ v : Int, r = some (.inl v) ∧ (0 ≤ v ∧ v ≤ 7) ∧ (v = RLF F fa l p1 8)))) := by
    intro k_
    induction k_ with
    | zero => intro l4_2 l4_3 i5 i6 i7 i8 i9 hm; exact absurd hm (Nat.not_lt_zero _)
    | succ k_ ih_loop10 =>
      intro l4_2 l4_3 i5 i6 i7 i8 i9 hm
      have qS := i7
      have h8_ : ¬ l4_3 = 8 := fun z_ => by have y_ := qS; rw [z_, show (8 : Int).toNat = 8 from rfl] at y_; omega
      have hW_ : l4_3 < 8 → dt 72 l4_3.toNat = WH F fa l l4_3 := fun z_ => (h_p0.1 l4_3.toNat (by omega)).trans (by rw [show ((l4_3.toNat : Nat) : Int) = l4_3 by first | with_reducible assumption | omega])
      replace hW_ := hid hW_
      have hR_ : l4_3 < 8 → _ := fun (z_ : l4_3 < 8) => WH_R7 (f := F) (fa := fa) (l := l) (r := l4_3) (by (first | omega | (have z0_ := unhid hW_; omega)))
      have hs_ := WS_s (f := F) (fa := fa) (l := l) (r := l4_3) (by (first | omega | (have z0_ := unhid hW_; omega)))
      refine go_ifq PM46 (k := 2) (p1 := 32) (p2 := 10) (L' := [some (.inr (.inr (some 71))), some (.inl p1), some (.inl l4_2), some (.inl l4_3)]) (st' := []) (w' := (SH, dt)) rfl (c_ge (a := l4_3) (b := 8) (by first | exact bnd i6 (by decide) (by decide) | exact ⟨by (first | omega | (have z0_ := unhid hW_; omega)), by (first | omega | (have z0_ := unhid hW_; omega))⟩) ⟨by decide, by decide⟩) (fun c11 => ?_) (fun c11 => ?_)
      · skip
        exfalso; (first | omega | (have z0_ := unhid hW_; omega))
      · skip
        refine go_toq PM46 (k := 4) (pc' := 16) (L' := [some (.inr (.inr (some 71))), some (.inl p1), some (.inl l4_2), some (.inl l4_3)]) (st' := [.inl l4_3, .inr (.inr (some 72)), .inl l4_2]) (w' := (SH, dt)) rfl ?_
        have r12 : 0 ≤ dt 72 (l4_3).toNat ∧ dt 72 (l4_3).toNat ≤ 100 := InvC_get hI 72 (l4_3).toNat rfl rfl
        refine go_smpq PM46 (L' := [some (.inr (.inr (some 71))), some (.inl p1), some (.inl l4_2), some (.inl l4_3)]) (st' := [.inl (dt 72 (l4_3).toNat), .inl l4_2]) (w' := (SH, dt)) rfl rfl (s_iald (n := 9) (f := dt 72) rfl (by first | exact bndc i6 c11 (by decide) (by decide) | exact bndx i6 (by decide) (by decide) | exact ⟨by (first | omega | (have z0_ := unhid hW_; omega)), by (first | omega | (have z0_ := unhid hW_; omega))⟩)) ?_
        refine go_ifq PM46 (k := 4) (p1 := 26) (p2 := 24) (L' := [some (.inr (.inr (some 71))), some (.inl p1), some (.inl (l4_2 + (dt 72 (l4_3).toNat))), some (.inl l4_3)]) (st' := []) (w' := (SH, dt)) rfl (c_le (a := l4_2 + (dt 72 (l4_3).toNat)) (b := p1) ⟨by (first | omega | (have z0_ := unhid hW_; omega)), by (first | omega | (have z0_ := unhid hW_; omega))⟩ (by first | exact bnd h_p1 (by decide) (by decide) | exact ⟨by (first | omega | (have z0_ := unhid hW_; omega)), by (first | omega | (have z0_ := unhid hW_; omega))⟩)) (fun c13 => ?_) (fun c13 => ?_)
        · skip
          refine go_toq PM46 (k := 2) (pc' := 4) (L' := [some (.inr (.inr (some 71))), some (.inl p1), some (.inl (l4_2 + (dt 72 (l4_3).toNat))), some (.inl (l4_3 + 1))]) (st' := []) (w' := (SH, dt)) rfl ?_
          exact GO.le (ih_loop10 (l4_2 + (dt 72 (l4_3).toNat)) (l4_3 + 1) (by first | (first | omega | (have z0_ := unhid hW_; omega)) | rfl) (by first | (first | omega | (have z0_ := unhid hW_; omega)) | rfl) (by first | (first | omega | (have z0_ := unhid hW_; omega)) | rfl) (by first | (first | omega | (have z0_ := unhid hW_; omega)) | rfl) (by first | (first | omega | (have z0_ := unhid hW_; omega)) | rfl) (by (first | omega | (have z0_ := unhid hW_; omega)))) ⟨.inl rfl, .inl rfl, .inl rfl, .inl rfl, trivial⟩
        · skip
          refine go_retq PM46 (k := 1) (r := some (.inl l4_3)) (w1 := (SH, dt)) rfl ?_
          exact ⟨rfl, ⟨_, rfl, (by first | exact bnd i6 (by decide) (by decide) | exact bndd i6 c11 (by decide) (by decide) | exact ⟨by (first | omega | (have z0_ := unhid hW_; omega)), by (first | omega | (have z0_ := unhid hW_; omega))⟩), by exact RLF_u ⟨by (first | omega | (have z0_ := unhid hW_; omega)), by (first | omega | (have z0_ := unhid hW_; omega))⟩ (by (first | omega | (have z0_ := unhid hW_; omega))) (by (first | omega | (have z0_ := unhid hW_; omega)))⟩⟩
  exact GO.le (loop10 _ 0 0 (by first | omega | rfl) (by first | omega | rfl) (by first | omega | rfl) (by first | omega | rfl) (by first | omega | rfl) (Nat.lt_succ_self _)) ⟨.inl rfl, .inl rfl, .inl rfl, .inl rfl, trivial⟩
theorem sp_X5_draw_f (L : Nat) (xs : Nat → Int32) (sio : Option Nat) (d : Nat) (dt : Nat → Nat → Int) (hI : InvC dt)  (p1 : Int) (h_p1 : 1 ≤ p1 ∧ p1 ≤ 1000)  : GO (am_XX L xs sio) (d) 110 0 [some (.inr (.inr (some 0))), some (.inl p1)] [] (SH, dt) (fun r w2 => ∃ dt2 : Nat → Nat → Int, w2 = (SH, dt2) ∧ InvC dt2 ∧ Fr [1] dt dt2 ∧ ((∃ v : Int, r = some (.inl v) ∧ (0 ≤ v ∧ v ≤ 999) ∧ (v < p1) ∧ (dt2 1 0 = DRW (dt 1 0)) ∧ (v = DVW (DRW (dt 1 0)) p1)))) := by
  have hF : Fr [1] dt dt := Fr_refl
  have r1 : (-2147483648) ≤ dt 1 0 ∧ dt 1 0 ≤ 2147483647 := InvC_get hI 1 0 rfl rfl
  refine go_toq PM110 (k := 9) (pc' := 19) (L' := [some (.inr (.inr (some 0))), some (.inl p1)]) (st' := [.inl ((1664525 * (dt 1 0)) + 1013904223), .inr (.inr (some 1))]) (w' := (SH, dt)) rfl ?_
  have r2 := wr_RR ((1664525 * (dt 1 0)) + 1013904223)
  have hI3 : InvC (u2 dt 1 0 (wr ((1664525 * (dt 1 0)) + 1013904223))) := InvC_u2 hI (lo := -2147483648) (hi := 2147483647) rfl rfl rfl (by omega) (by omega)
  have hF4 : Fr [1] dt (u2 dt 1 0 (wr ((1664525 * (dt 1 0)) + 1013904223))) := Fr_u2 hF (by decide)
  have w5 : (u2 dt 1 0 (wr ((1664525 * (dt 1 0)) + 1013904223))) 1 0 = wr ((1664525 * (dt 1 0)) + 1013904223) := rfl
  refine go_smpq PM110 (L' := [some (.inr (.inr (some 0))), some (.inl p1)]) (st' := []) (w' := (SH, (u2 dt 1 0 (wr ((1664525 * (dt 1 0)) + 1013904223))))) rfl rfl (s_pfw rfl rfl rfl rfl) ?_
  refine go_ifq PM110 (k := 1) (p1 := 41) (p2 := 26) (L' := [some (.inr (.inr (some 0))), some (.inl p1)]) (st' := []) (w' := (SH, (u2 dt 1 0 (wr ((1664525 * (dt 1 0)) + 1013904223))))) rfl (z_le (a := p1) (by first | exact bnd h_p1 (by decide) (by decide) | exact ⟨by omega, by omega⟩)) (fun c6 => ?_) (fun c6 => ?_)
  · exfalso; omega
  · skip
    have r7 : 0 ≤ am_ushr (wr ((1664525 * (dt 1 0)) + 1013904223)) 8 ∧ am_ushr (wr ((1664525 * (dt 1 0)) + 1013904223)) 8 ≤ 16777215 := ushr8_R
    refine go_toq PM110 (k := 6) (pc' := 37) (L' := [some (.inr (.inr (some 0))), some (.inl p1)]) (st' := [.inl p1, .inl (am_ushr (wr ((1664525 * (dt 1 0)) + 1013904223)) 8)]) (w' := (SH, (u2 dt 1 0 (wr ((1664525 * (dt 1 0)) + 1013904223))))) rfl ?_
    have r8 : 0 ≤ (am_ushr (wr ((1664525 * (dt 1 0)) + 1013904223)) 8) % p1 ∧ (am_ushr (wr ((1664525 * (dt 1 0)) + 1013904223)) 8) % p1 < p1 := mod_R (by omega)
    refine go_smpq PM110 (L' := [some (.inr (.inr (some 0))), some (.inl p1)]) (st' := [.inl ((am_ushr (wr ((1664525 * (dt 1 0)) + 1013904223)) 8) % p1)]) (w' := (SH, (u2 dt 1 0 (wr ((1664525 * (dt 1 0)) + 1013904223))))) rfl rfl (s_iremc ⟨by omega, by omega⟩ ⟨by omega, by omega⟩) ?_
    refine go_retq PM110 (k := 1) (r := some (.inl ((am_ushr (wr ((1664525 * (dt 1 0)) + 1013904223)) 8) % p1))) (w1 := (SH, (u2 dt 1 0 (wr ((1664525 * (dt 1 0)) + 1013904223))))) rfl ?_
    exact ⟨(u2 dt 1 0 (wr ((1664525 * (dt 1 0)) + 1013904223))), rfl, hI3, hF4, ⟨_, rfl, ⟨by omega, by omega⟩, ⟨by first | exact True.intro | with_reducible assumption | rfl | omega | trivial, by first | rfl | (unfold DRW; simp only [*]) | exact u2_eq, by unfold DVW DRW; first | rfl | (rw [u2_eq])⟩⟩⟩
set_option maxRecDepth 20000 in
theorem sp_X6_draw_f (L : Nat) (xs : Nat → Int32) (sio : Option Nat) (d : Nat) (dt : Nat → Nat → Int) (hI : InvC dt) (hM : MW (dt 80))  (p1 : Int) (h_p1 : 1 ≤ p1 ∧ p1 ≤ 1000)  : GO (am_XX L xs sio) (d) 150 0 [some (.inr (.inr (some 79))), some (.inl p1)] [] (SH, dt) (fun r w2 => ∃ dt2 : Nat → Nat → Int, w2 = (SH, dt2) ∧ InvC dt2 ∧ Fr [80] dt dt2 ∧ ((∃ v : Int, r = some (.inl v) ∧ (0 ≤ v ∧ v ≤ 999) ∧ (v < p1) ∧ (dt2 80 0 = wr (1664525 * dt 80 0 + 1013904223)) ∧ (∀ j, 1 ≤ j → dt2 80 j = dt 80 j) ∧ (MW (dt2 80)) ∧ (v = DVW (DRW (dt 80 0)) p1)))) := by
  have hF : Fr [80] dt dt := Fr_refl
  refine go_toq PM150 (k := 7) (pc' := 12) (L' := [some (.inr (.inr (some 79))), some (.inl p1)]) (st' := [.inl 0, .inr (.inr (some 80)), .inl 1664525, .inl 0, .inr (.inr (some 80))]) (w' := (SH, dt)) rfl ?_
  have r1 : (-2147483648) ≤ dt 80 0 ∧ dt 80 0 ≤ 2147483647 := InvC_get hI 80 0 rfl rfl
  refine go_smpq PM150 (L' := [some (.inr (.inr (some 79))), some (.inl p1)]) (st' := [.inl (dt 80 0), .inl 1664525, .inl 0, .inr (.inr (some 80))]) (w' := (SH, dt)) rfl rfl (s_iald (n := 7460) (f := dt 80) rfl ⟨by decide, by decide⟩) ?_
  refine go_toq PM150 (k := 3) (pc' := 17) (L' := [some (.inr (.inr (some 79))), some (.inl p1)]) (st' := [.inl ((1664525 * (dt 80 0)) + 1013904223), .inl 0, .inr (.inr (some 80))]) (w' := (SH, dt)) rfl ?_
  have r2 := wr_RR ((1664525 * (dt 80 0)) + 1013904223)
  have hI3 : InvC (u2 dt 80 0 (wr ((1664525 * (dt 80 0)) + 1013904223))) := InvC_u2 hI (lo := -2147483648) (hi := 2147483647) rfl rfl rfl (by omega) (by omega)
  have hF4 : Fr [80] dt (u2 dt 80 0 (wr ((1664525 * (dt 80 0)) + 1013904223))) := Fr_u2 hF (by decide)
  refine go_smpq PM150 (L' := [some (.inr (.inr (some 79))), some (.inl p1)]) (st' := []) (w' := (SH, (u2 dt 80 0 (wr ((1664525 * (dt 80 0)) + 1013904223))))) rfl rfl (s_iastw (n := 7460) rfl ⟨by decide, by decide⟩) ?_
  refine go_toq PM150 (k := 3) (pc' := 23) (L' := [some (.inr (.inr (some 79))), some (.inl p1)]) (st' := [.inl 0, .inr (.inr (some 80))]) (w' := (SH, (u2 dt 80 0 (wr ((1664525 * (dt 80 0)) + 1013904223))))) rfl ?_
  refine go_smpq PM150 (L' := [some (.inr (.inr (some 79))), some (.inl p1)]) (st' := [.inl (wr ((1664525 * (dt 80 0)) + 1013904223))]) (w' := (SH, (u2 dt 80 0 (wr ((1664525 * (dt 80 0)) + 1013904223))))) rfl rfl (s_iald (n := 7460) (f := (u2 dt 80 0 (wr ((1664525 * (dt 80 0)) + 1013904223))) 80) rfl ⟨by decide, by decide⟩) ?_
  have r5 : 0 ≤ am_ushr (wr ((1664525 * (dt 80 0)) + 1013904223)) 8 ∧ am_ushr (wr ((1664525 * (dt 80 0)) + 1013904223)) 8 ≤ 16777215 := ushr8_R
  refine go_toq PM150 (k := 3) (pc' := 28) (L' := [some (.inr (.inr (some 79))), some (.inl p1)]) (st' := [.inl p1, .inl (am_ushr (wr ((1664525 * (dt 80 0)) + 1013904223)) 8)]) (w' := (SH, (u2 dt 80 0 (wr ((1664525 * (dt 80 0)) + 1013904223))))) rfl ?_
  have r6 : 0 ≤ (am_ushr (wr ((1664525 * (dt 80 0)) + 1013904223)) 8) % p1 ∧ (am_ushr (wr ((1664525 * (dt 80 0)) + 1013904223)) 8) % p1 < p1 := mod_R (by omega)
  refine go_smpq PM150 (L' := [some (.inr (.inr (some 79))), some (.inl p1)]) (st' := [.inl ((am_ushr (wr ((1664525 * (dt 80 0)) + 1013904223)) 8) % p1)]) (w' := (SH, (u2 dt 80 0 (wr ((1664525 * (dt 80 0)) + 1013904223))))) rfl rfl (s_iremc ⟨by omega, by omega⟩ ⟨by omega, by omega⟩) ?_
  refine go_retq PM150 (k := 0) (r := some (.inl ((am_ushr (wr ((1664525 * (dt 80 0)) + 1013904223)) 8) % p1))) (w1 := (SH, (u2 dt 80 0 (wr ((1664525 * (dt 80 0)) + 1013904223))))) rfl ?_
  exact ⟨(u2 dt 80 0 (wr ((1664525 * (dt 80 0)) + 1013904223))), rfl, hI3, hF4, ⟨_, rfl, ⟨by omega, by omega⟩, ⟨by first | exact True.intro | with_reducible assumption | rfl | omega | trivial, by first | exact u2_eq | rfl, by exact fun j hj => u2_ne (by omega), by exact MW_cop hM (fun j h1 _ => u2_ne (by omega)), by unfold DVW DRW; first | rfl | (rw [u2_eq])⟩⟩⟩
theorem sp_X5_ask_f (L : Nat) (xs : Nat → Int32) (sio : Option Nat) (d : Nat) (dt : Nat → Nat → Int) (hI : InvC dt) (F : Nat → Int) (hMF : MW F) (p1 : Int) (h_p1 : (-2147483648) ≤ p1 ∧ p1 ≤ 2147483647) (p2 : Int) (h_p2 : (-2147483648) ≤ p2 ∧ p2 ≤ 2147483647) (p3 : Int) (h_p3 : (-2147483648) ≤ p3 ∧ p3 ≤ 2147483647) (h_p0 : ALK dt F) : GO (am_XX L xs sio) (d + 5) 79 0 [some (.inr (.inr (some 0))), some (.inl p1), some (.inl p2), some (.inl p3), none, none, none] [] (SH, dt) (fun r w2 => ∃ dt2 : Nat → Nat → Int, w2 = (SH, dt2) ∧ InvC dt2 ∧ Fr [1, 12, 13, 71, 72, 73, 74] dt dt2 ∧ ((r = some (.inl (-2)) ∧ (¬ ((0 ≤ p1 ∧ p1 < dt 10 3) ∧ (0 ≤ p2 ∧ p2 < dt 7 3) ∧ (0 ≤ p3 ∧ p3 ≤ 3) ∧ dt 12 3 < 300)) ∧ (dt2 1 0 = dt 1 0) ∧ (dt2 12 3 = dt 12 3)) ∨ (∃ v : Int, r = some (.inl v) ∧ ((-2147483648) ≤ v ∧ v ≤ 2147483647) ∧ ((0 ≤ p1 ∧ p1 < dt 10 3) ∧ (0 ≤ p2 ∧ p2 < dt 7 3) ∧ (0 ≤ p3 ∧ p3 ≤ 3) ∧ dt 12 3 < 300) ∧ (dt2 1 0 = DRW (DRW (dt 1 0))) ∧ (dt2 12 3 = dt 12 3 + 1) ∧ (v = AKB F (FQ F p1 p2 p3) (F (5380 + 4 * p1.toNat)) p2.toNat (dt 1 0))))) := by
  have hF : Fr [1, 12, 13, 71, 72, 73, 74] dt dt := Fr_refl
  have r1 : 0 ≤ dt 7 3 ∧ dt 7 3 ≤ 12 := InvC_get hI 7 3 rfl rfl
  have r2 : 0 ≤ dt 10 3 ∧ dt 10 3 ≤ 40 := InvC_get hI 10 3 rfl rfl
  have r3 : 0 ≤ dt 12 3 ∧ dt 12 3 ≤ 300 := InvC_get hI 12 3 rfl rfl
  refine go_toq PM79 (k := 4) (pc' := 4) (L' := [some (.inr (.inr (some 0))), some (.inl p1), some (.inl p2), some (.inl p3), none, none, none]) (st' := [.inl p3, .inl p2, .inl p1, .inr (.inr (some 0))]) (w' := (SH, dt)) rfl ?_
  refine go_callq PM79 PM108 (Q' := _) rfl rfl rfl rfl (sp_X5_canAsk L xs sio (d + 3) dt hI  p1 (by first | exact h_p1 | exact bnd h_p1 (by decide) (by decide) | exact ⟨by omega, by omega⟩) p2 (by first | exact h_p2 | exact bnd h_p2 (by decide) (by decide) | exact ⟨by omega, by omega⟩) p3 (by first | exact h_p3 | exact bnd h_p3 (by decide) (by decide) | exact ⟨by omega, by omega⟩) ) ?_
  rintro _ _ ⟨rfl, h4⟩
  refine ⟨rfl, ?_⟩
  rcases h4 with ⟨rfl, h4⟩ | ⟨rfl, h4⟩
  · skip
    obtain ⟨h4_0, h4_1, h4_2⟩ := h4
    have ec_ := ALK_c h_p0 (c := p1) (by omega)
    have el_ := ALK_l h_p0 hMF (c := p1) (by omega)
    refine go_toq PM79 (k := 4) (pc' := 17) (L' := [some (.inr (.inr (some 0))), some (.inl p1), some (.inl p2), some (.inl p3), none, none, none]) (st' := [.inr (.inr (some 12))]) (w' := (SH, dt)) rfl ?_
    refine go_callq PM79 PM38 (Q' := _) rfl rfl rfl rfl (sp_X2_isFull_12 L xs sio (d + 4) dt hI   ) ?_
    rintro _ _ ⟨rfl, h5⟩
    refine ⟨rfl, ?_⟩
    rcases h5 with ⟨rfl, h5⟩ | ⟨rfl, h5⟩
    · skip
      refine go_retq PM79 (k := 2) (r := some (.inl (-2))) (w1 := (SH, dt)) rfl ?_
      first | exact ⟨dt, rfl, hI, hF, (Or.inl ⟨rfl, ⟨by first | exact True.intro | with_reducible assumption | rfl | omega | trivial, by first | exact True.intro | with_reducible assumption | rfl | omega | trivial, by first | exact True.intro | with_reducible assumption | rfl | omega | trivial⟩⟩)⟩ | exact ⟨dt, rfl, hI, hF, (Or.inr ⟨_, rfl, ⟨by decide, by decide⟩, ⟨by first | exact True.intro | with_reducible assumption | rfl | omega | trivial, by exact hI, by first | exact True.intro | with_reducible assumption | rfl | omega | trivial, by unfold AKB; rw [← ec_.1]; first | (rw [if_pos (by omega)]; exact hI) | (rw [if_neg (by omega), if_pos (by omega)]; exact hI) | (rw [if_neg (by omega), if_neg (by omega), ← hA_, ← hI, ← hI]; exact hI)⟩⟩)⟩
    · skip
      refine go_toq PM79 (k := 4) (pc' := 29) (L' := [some (.inr (.inr (some 0))), some (.inl p1), some (.inl p2), some (.inl p3), none, none, none]) (st' := [.inl p1, .inr (.inr (some 0)), .inr (.inr (some 0))]) (w' := (SH, dt)) rfl ?_
      refine go_callq PM79 PM109 (Q' := _) rfl rfl rfl rfl (sp_X5_lawOf_f L xs sio (d + 2) dt hI  p1 (by first | exact h_p1 | exact bnd h_p1 (by decide) (by decide) | exact ⟨by omega, by omega⟩) (by first | exact True.intro | with_reducible assumption | rfl | omega | trivial | exact hI | exact ALK_fr h_p0 hF (fun k a b z_ => by simp at z_; omega) | (rw [show dt 9 = dt 9 from funext (hF 9 (by decide))]; exact h_p0.2.2.1) | (rw [show dt 7 3 = dt 7 3 from hF 7 (by decide) 3]; first | omega | exact h_p0.2.2.2.2.1) | (rw [show dt 10 3 = dt 10 3 from hF 10 (by decide) 3]; omega)) (by first | exact True.intro | with_reducible assumption | rfl | omega | trivial | exact hI | exact ALK_fr h_p0 hF (fun k a b z_ => by simp at z_; omega) | (rw [show dt 9 = dt 9 from funext (hF 9 (by decide))]; exact h_p0.2.2.1) | (rw [show dt 7 3 = dt 7 3 from hF 7 (by decide) 3]; first | omega | exact h_p0.2.2.2.2.1) | (rw [show dt 10 3 = dt 10 3 from hF 10 (by decide) 3]; omega))) ?_
      rintro _ _ ⟨rfl, h6⟩
      refine ⟨rfl, ?_⟩
      rcases h6 with ⟨rfl, h6⟩
      refine go_toq PM79 (k := 3) (pc' := 35) (L' := [some (.inr (.inr (some 0))), some (.inl p1), some (.inl p2), some (.inl p3), none, none, none]) (st' := [.inl p3, .inl p2, .inl p1, .inl (dt 11 (((p1 * 4) + 0)).toNat), .inr (.inr (some 0))]) (w' := (SH, dt)) rfl ?_
      refine go_callq PM79 PM118 (Q' := _) rfl rfl rfl rfl (sp_X5_weigh_f L xs sio (d + 0) dt hI F hMF (dt 11 (((p1 * 4) + 0)).toNat) ⟨by omega, by omega⟩ p1 (by first | exact h_p1 | exact bnd h_p1 (by decide) (by decide) | exact ⟨by omega, by omega⟩) p2 (by first | exact h_p2 | exact bnd h_p2 (by decide) (by decide) | exact ⟨by omega, by omega⟩) p3 (by first | exact h_p3 | exact bnd h_p3 (by decide) (by decide) | exact ⟨by omega, by omega⟩) (by first | exact True.intro | with_reducible assumption | rfl | omega | trivial | exact hI | exact ALK_fr h_p0 hF (fun k a b z_ => by simp at z_; omega) | (rw [show dt 9 = dt 9 from funext (hF 9 (by decide))]; exact h_p0.2.2.1) | (rw [show dt 7 3 = dt 7 3 from hF 7 (by decide) 3]; first | omega | exact h_p0.2.2.2.2.1) | (rw [show dt 10 3 = dt 10 3 from hF 10 (by decide) 3]; omega)) (by first | exact True.intro | with_reducible assumption | rfl | omega | trivial | exact hI | exact ALK_fr h_p0 hF (fun k a b z_ => by simp at z_; omega) | (rw [show dt 9 = dt 9 from funext (hF 9 (by decide))]; exact h_p0.2.2.1) | (rw [show dt 7 3 = dt 7 3 from hF 7 (by decide) 3]; first | omega | exact h_p0.2.2.2.2.1) | (rw [show dt 10 3 = dt 10 3 from hF 10 (by decide) 3]; omega)) (by first | exact True.intro | with_reducible assumption | rfl | omega | trivial | exact hI | exact ALK_fr h_p0 hF (fun k a b z_ => by simp at z_; omega) | (rw [show dt 9 = dt 9 from funext (hF 9 (by decide))]; exact h_p0.2.2.1) | (rw [show dt 7 3 = dt 7 3 from hF 7 (by decide) 3]; first | omega | exact h_p0.2.2.2.2.1) | (rw [show dt 10 3 = dt 10 3 from hF 10 (by decide) 3]; omega))) ?_
      rintro _ _ ⟨dt8, rfl, hI9, hF10, h7⟩
      refine ⟨rfl, ?_⟩
      have hF11 : Fr [1, 12, 13, 71, 72, 73, 74] dt dt8 := Fr_tr hF hF10 (by decide)
      have w12 : dt8 1 0 = dt 1 0 := hF10 1 (by decide) 0
      have w13 : dt8 12 3 = dt 12 3 := hF10 12 (by decide) 3
      rcases h7 with ⟨rfl, h7⟩
      have wg14 : WGT (dt8 72) (dt8 71 1) F (FQ F p1 p2 p3) (dt 11 (((p1 * 4) + 0)).toNat) := h7
      have hA_ := wg14.2.2
      have hP_ := wg14.2.1
      have bW_ := WS_R8 (f := F) (fa := (FQ F p1 p2 p3)) (l := (dt 11 (((p1 * 4) + 0)).toNat)) 8 (by decide)
      have st15 : dt8 1 0 = dt 1 0 := hF10 1 (by decide) 0
      have r16 : 0 ≤ dt8 71 1 ∧ dt8 71 1 ≤ 792 := InvC_get hI9 71 1 rfl rfl
      refine go_ifq PM79 (k := 5) (p1 := 61) (p2 := 51) (L' := [some (.inr (.inr (some 0))), some (.inl p1), some (.inl p2), some (.inl p3), some (.inl (-1)), none, none]) (st' := []) (w' := (SH, dt8)) rfl (z_ne (a := dt8 71 1) (by first | exact bnd r16 (by decide) (by decide) | exact ⟨by omega, by omega⟩)) (fun c17 => ?_) (fun c17 => ?_)
      · skip
        have qc17 : 1 ≤ dt8 71 1 := by omega
        replace c17 := hid c17
        refine go_toq PM79 (k := 6) (pc' := 73) (L' := [some (.inr (.inr (some 0))), some (.inl p1), some (.inl p2), some (.inl p3), some (.inl (-1)), none, none]) (st' := [.inl (dt8 71 1), .inr (.inr (some 0)), .inr (.inr (some 71))]) (w' := (SH, dt8)) rfl ?_
        refine go_callq PM79 PM110 (Q' := _) rfl rfl rfl rfl (sp_X5_draw_f L xs sio (d + 4) dt8 hI9  (dt8 71 1) (by first | exact bnd r16 (by decide) (by decide) | exact ⟨by (first | omega | (have z0_ := unhid c17; omega)), by (first | omega | (have z0_ := unhid c17; omega))⟩) ) ?_
        rintro _ _ ⟨dt19, rfl, hI20, hF21, h18⟩
        refine ⟨rfl, ?_⟩
        have hF22 : Fr [1, 12, 13, 71, 72, 73, 74] dt dt19 := Fr_tr hF11 hF21 (by decide)
        have w23 : dt19 12 3 = dt8 12 3 := hF21 12 (by decide) 3
        rcases h18 with ⟨v_h18, rfl, h18r, h18⟩
        obtain ⟨h18_0, h18_1, h18_2⟩ := h18
        have dv24 : v_h18 = DVW (DRW (dt 1 0)) (dt8 71 1) := by have z_ := h18_2; rw [st15] at z_; exact z_
        have st25 : dt19 1 0 = DRW (dt 1 0) := by rw [h18_1, st15]
        have wg26 : WGT (dt19 72) (dt19 71 1) F (FQ F p1 p2 p3) (dt 11 (((p1 * 4) + 0)).toNat) := by rw [show dt19 72 = dt8 72 from funext (hF21 72 (by decide)), hF21 71 (by decide) 1]; exact wg14
        have hA27 := wg26.2.2
        have hP28 := wg26.2.1
        refine go_callq PM79 PM46 (Q' := _) rfl rfl rfl rfl (sp_X3_ruleOf_f L xs sio (d + 4) dt19 hI20 F (FQ F p1 p2 p3) (dt 11 (((p1 * 4) + 0)).toNat) v_h18 (by first | exact bnd h18r (by decide) (by decide) | exact ⟨by (first | omega | (have z0_ := unhid c17; omega)), by (first | omega | (have z0_ := unhid c17; omega))⟩) (by first | exact True.intro | with_reducible assumption | exact unhid (by with_reducible assumption) | rfl | (first | omega | (have z0_ := unhid c17; omega)) | trivial | exact wg26 | exact ALK_fr h_p0 hF22 (fun k a b z_ => by simp at z_; (first | omega | (have z0_ := unhid c17; omega))) | (rw [show dt19 9 = dt 9 from funext (hF22 9 (by decide))]; exact h_p0.2.2.1) | (rw [show dt19 7 3 = dt 7 3 from hF22 7 (by decide) 3]; first | (first | omega | (have z0_ := unhid c17; omega)) | exact h_p0.2.2.2.2.1) | (rw [show dt19 10 3 = dt 10 3 from hF22 10 (by decide) 3]; (first | omega | (have z0_ := unhid c17; omega)))) (by first | exact True.intro | with_reducible assumption | exact unhid (by with_reducible assumption) | rfl | (first | omega | (have z0_ := unhid c17; omega)) | trivial | exact wg26 | exact ALK_fr h_p0 hF22 (fun k a b z_ => by simp at z_; (first | omega | (have z0_ := unhid c17; omega))) | (rw [show dt19 9 = dt 9 from funext (hF22 9 (by decide))]; exact h_p0.2.2.1) | (rw [show dt19 7 3 = dt 7 3 from hF22 7 (by decide) 3]; first | (first | omega | (have z0_ := unhid c17; omega)) | exact h_p0.2.2.2.2.1) | (rw [show dt19 10 3 = dt 10 3 from hF22 10 (by decide) 3]; (first | omega | (have z0_ := unhid c17; omega))))) ?_
        rintro _ _ ⟨rfl, h29⟩
        refine ⟨rfl, ?_⟩
        rcases h29 with ⟨v_h29, rfl, h29r, h29⟩
        refine go_toq PM79 (k := 5) (pc' := 88) (L' := [some (.inr (.inr (some 0))), some (.inl p1), some (.inl p2), some (.inl p3), some (.inl v_h29), none, none]) (st' := [.inl v_h29, .inl p2, .inr (.inr (some 1))]) (w' := (SH, dt19)) rfl ?_
        refine go_callq PM79 PM1 (Q' := _) rfl rfl rfl rfl (sp_X0_saidOf_f L xs sio (d + 3) dt19 hI20  p2 (by first | exact h_p2 | exact bnd h_p2 (by decide) (by decide) | exact ⟨by (first | omega | (have z0_ := unhid c17; omega)), by (first | omega | (have z0_ := unhid c17; omega))⟩) v_h29 (by first | exact bnd h29r (by decide) (by decide) | exact ⟨by (first | omega | (have z0_ := unhid c17; omega)), by (first | omega | (have z0_ := unhid c17; omega))⟩) (by first | exact True.intro | with_reducible assumption | exact unhid (by with_reducible assumption) | rfl | (first | omega | (have z0_ := unhid c17; omega)) | trivial | exact wg26 | exact ALK_fr h_p0 hF22 (fun k a b z_ => by simp at z_; (first | omega | (have z0_ := unhid c17; omega))) | (rw [show dt19 9 = dt 9 from funext (hF22 9 (by decide))]; exact h_p0.2.2.1) | (rw [show dt19 7 3 = dt 7 3 from hF22 7 (by decide) 3]; first | (first | omega | (have z0_ := unhid c17; omega)) | exact h_p0.2.2.2.2.1) | (rw [show dt19 10 3 = dt 10 3 from hF22 10 (by decide) 3]; (first | omega | (have z0_ := unhid c17; omega))))) ?_
        rintro _ _ ⟨rfl, h30⟩
        refine ⟨rfl, ?_⟩
        rcases h30 with ⟨rfl, h30⟩
        have sd31 : dt19 9 (((p2 * 11) + v_h29)).toNat = SAID F p2.toNat v_h29 := by rw [hF22 9 (by decide)]; have z_ := h_p0.2.2.1 p2.toNat (by have w_ := h_p0.2.2.2.2.1; (first | omega | (have z0_ := unhid c17; omega))) (v_h29).toNat (by (first | omega | (have z0_ := unhid c17; omega))); rw [show 11 * p2.toNat + (v_h29).toNat = (((p2 * 11) + v_h29)).toNat by first | with_reducible assumption | exact unhid (by with_reducible assumption) | (first | omega | (have z0_ := unhid c17; omega)), show (((v_h29).toNat : Nat) : Int) = v_h29 by first | with_reducible assumption | exact unhid (by with_reducible assumption) | (first | omega | (have z0_ := unhid c17; omega))] at z_; exact z_
        refine go_toq PM79 (k := 3) (pc' := 96) (L' := [some (.inr (.inr (some 0))), some (.inl p1), some (.inl p2), some (.inl p3), some (.inl v_h29), some (.inl (dt19 9 (((p2 * 11) + v_h29)).toNat)), none]) (st' := [.inl 100, .inr (.inr (some 0))]) (w' := (SH, dt19)) rfl ?_
        refine go_callq PM79 PM110 (Q' := _) rfl rfl rfl rfl (sp_X5_draw_f L xs sio (d + 4) dt19 hI20  100 ⟨by decide, by decide⟩ ) ?_
        rintro _ _ ⟨dt33, rfl, hI34, hF35, h32⟩
        refine ⟨rfl, ?_⟩
        have hF36 : Fr [1, 12, 13, 71, 72, 73, 74] dt dt33 := Fr_tr hF22 hF35 (by decide)
        have w37 : dt33 12 3 = dt19 12 3 := hF35 12 (by decide) 3
        rcases h32 with ⟨v_h32, rfl, h32r, h32⟩
        obtain ⟨h32_0, h32_1, h32_2⟩ := h32
        have dv38 : v_h32 = DVW (DRW (DRW (dt 1 0))) 100 := by have z_ := h32_2; rw [st25] at z_; exact z_
        have st39 : dt33 1 0 = DRW (DRW (dt 1 0)) := by rw [h32_1, st25]
        have wg40 : WGT (dt33 72) (dt33 71 1) F (FQ F p1 p2 p3) (dt 11 (((p1 * 4) + 0)).toNat) := by rw [show dt33 72 = dt19 72 from funext (hF35 72 (by decide)), hF35 71 (by decide) 1]; exact wg26
        have hA41 := wg40.2.2
        have hP42 := wg40.2.1
        refine go_toq PM79 (k := 4) (pc' := 108) (L' := [some (.inr (.inr (some 0))), some (.inl p1), some (.inl p2), some (.inl p3), some (.inl v_h29), some (.inl (dt19 9 (((p2 * 11) + v_h29)).toNat)), none]) (st' := [.inl 8, .inr (.inr (some 72)), .inl v_h32]) (w' := (SH, dt33)) rfl ?_
        have r43 : 0 ≤ dt33 72 8 ∧ dt33 72 8 ≤ 100 := InvC_get hI34 72 8 rfl rfl
        refine go_smpq PM79 (L' := [some (.inr (.inr (some 0))), some (.inl p1), some (.inl p2), some (.inl p3), some (.inl v_h29), some (.inl (dt19 9 (((p2 * 11) + v_h29)).toNat)), none]) (st' := [.inl (dt33 72 8), .inl v_h32]) (w' := (SH, dt33)) rfl rfl (s_iald (n := 9) (f := dt33 72) rfl ⟨by decide, by decide⟩) ?_
        refine go_ifq PM79 (k := 0) (p1 := 116) (p2 := 112) (L' := [some (.inr (.inr (some 0))), some (.inl p1), some (.inl p2), some (.inl p3), some (.inl v_h29), some (.inl (dt19 9 (((p2 * 11) + v_h29)).toNat)), none]) (st' := []) (w' := (SH, dt33)) rfl (c_ge (a := v_h32) (b := dt33 72 8) (by first | exact bnd h32r (by decide) (by decide) | exact ⟨by (first | omega | (have z0_ := unhid c17; omega)), by (first | omega | (have z0_ := unhid c17; omega))⟩) (by first | exact bnd r43 (by decide) (by decide) | exact ⟨by (first | omega | (have z0_ := unhid c17; omega)), by (first | omega | (have z0_ := unhid c17; omega))⟩)) (fun c44 => ?_) (fun c44 => ?_)
        · skip
          refine go_toq PM79 (k := 15) (pc' := 159) (L' := [some (.inr (.inr (some 0))), some (.inl p1), some (.inl p2), some (.inl p3), some (.inl v_h29), some (.inl (dt19 9 (((p2 * 11) + v_h29)).toNat)), some (.inl 0)]) (st' := [.inl 0, .inl v_h29, .inl (dt19 9 (((p2 * 11) + v_h29)).toNat), .inl p3, .inl p2, .inl p1, .inr (.inr (some 12))]) (w' := (SH, dt33)) rfl ?_
          have r45 : 0 ≤ dt33 12 3 ∧ dt33 12 3 ≤ 300 := InvC_get hI34 12 3 rfl rfl
          refine go_callq PM79 PM40 (Q' := _) rfl rfl rfl rfl (sp_X2_add_12 L xs sio (d + 3) dt33 hI34  p1 (by first | exact h_p1 | exact bnd h_p1 (by decide) (by decide) | exact ⟨by (first | omega | (have z0_ := unhid c17; omega)), by (first | omega | (have z0_ := unhid c17; omega))⟩) p2 (by first | exact h_p2 | exact bnd h_p2 (by decide) (by decide) | exact ⟨by (first | omega | (have z0_ := unhid c17; omega)), by (first | omega | (have z0_ := unhid c17; omega))⟩) p3 (by first | exact h_p3 | exact bnd h_p3 (by decide) (by decide) | exact ⟨by (first | omega | (have z0_ := unhid c17; omega)), by (first | omega | (have z0_ := unhid c17; omega))⟩) (dt19 9 (((p2 * 11) + v_h29)).toNat) ⟨by (first | omega | (have z0_ := unhid c17; omega)), by (first | omega | (have z0_ := unhid c17; omega))⟩ v_h29 (by first | exact bnd h29r (by decide) (by decide) | exact ⟨by (first | omega | (have z0_ := unhid c17; omega)), by (first | omega | (have z0_ := unhid c17; omega))⟩) 0 ⟨by decide, by decide⟩ ) ?_
          rintro _ _ ⟨dt47, rfl, hI48, hF49, h46⟩
          refine ⟨rfl, ?_⟩
          have hF50 : Fr [1, 12, 13, 71, 72, 73, 74] dt dt47 := Fr_tr hF36 hF49 (by decide)
          have w51 : dt47 1 0 = dt33 1 0 := hF49 1 (by decide) 0
          rcases h46 with ⟨rfl, h46⟩ | ⟨v_h46, rfl, h46r, h46⟩
          · skip
            obtain ⟨h46_0, h46_1⟩ := h46
            have st52 : dt47 1 0 = (DRW (DRW (dt 1 0))) := (hF49 1 (by decide) 0).trans st39
            have wg53 : WGT (dt47 72) (dt47 71 1) F (FQ F p1 p2 p3) (dt 11 (((p1 * 4) + 0)).toNat) := by rw [show dt47 72 = dt33 72 from funext (hF49 72 (by decide)), hF49 71 (by decide) 1]; exact wg40
            have hA54 := wg53.2.2
            have hP55 := wg53.2.1
            refine go_retq PM79 (k := 2) (r := some (.inl (dt19 9 (((p2 * 11) + v_h29)).toNat))) (w1 := (SH, dt47)) rfl ?_
            exact ⟨dt47, rfl, hI48, hF50, (Or.inr ⟨_, rfl, ⟨by (first | omega | (have z0_ := unhid c17; omega)), by (first | omega | (have z0_ := unhid c17; omega))⟩, ⟨by first | exact True.intro | with_reducible assumption | exact unhid (by with_reducible assumption) | rfl | (first | omega | (have z0_ := unhid c17; omega)) | trivial, by exact st52, by first | exact True.intro | with_reducible assumption | exact unhid (by with_reducible assumption) | rfl | (first | omega | (have z0_ := unhid c17; omega)) | trivial, by unfold AKB; rw [← ec_.1]; first | (rw [if_pos (by (first | omega | (have z0_ := unhid c17; omega)))]; exact hI) | (rw [if_neg (by (first | omega | (have z0_ := unhid c17; omega))), if_pos (by (first | omega | (have z0_ := unhid c17; omega)))]; exact dv24) | (rw [if_neg (by (first | omega | (have z0_ := unhid c17; omega))), if_neg (by (first | omega | (have z0_ := unhid c17; omega))), ← hA_, ← dv24, ← h29]; exact sd31)⟩⟩)⟩
          · skip
            obtain ⟨h46_0, h46_1, h46_2⟩ := h46
            have st56 : dt47 1 0 = (DRW (DRW (dt 1 0))) := (hF49 1 (by decide) 0).trans st39
            have wg57 : WGT (dt47 72) (dt47 71 1) F (FQ F p1 p2 p3) (dt 11 (((p1 * 4) + 0)).toNat) := by rw [show dt47 72 = dt33 72 from funext (hF49 72 (by decide)), hF49 71 (by decide) 1]; exact wg40
            have hA58 := wg57.2.2
            have hP59 := wg57.2.1
            refine go_retq PM79 (k := 2) (r := some (.inl (dt19 9 (((p2 * 11) + v_h29)).toNat))) (w1 := (SH, dt47)) rfl ?_
            exact ⟨dt47, rfl, hI48, hF50, (Or.inr ⟨_, rfl, ⟨by (first | omega | (have z0_ := unhid c17; omega)), by (first | omega | (have z0_ := unhid c17; omega))⟩, ⟨by first | exact True.intro | with_reducible assumption | exact unhid (by with_reducible assumption) | rfl | (first | omega | (have z0_ := unhid c17; omega)) | trivial, by exact st56, by first | exact True.intro | with_reducible assumption | exact unhid (by with_reducible assumption) | rfl | (first | omega | (have z0_ := unhid c17; omega)) | trivial, by unfold AKB; rw [← ec_.1]; first | (rw [if_pos (by (first | omega | (have z0_ := unhid c17; omega)))]; exact hI) | (rw [if_neg (by (first | omega | (have z0_ := unhid c17; omega))), if_pos (by (first | omega | (have z0_ := unhid c17; omega)))]; exact dv24) | (rw [if_neg (by (first | omega | (have z0_ := unhid c17; omega))), if_neg (by (first | omega | (have z0_ := unhid c17; omega))), ← hA_, ← dv24, ← h29]; exact sd31)⟩⟩)⟩
        · skip
          refine go_toq PM79 (k := 9) (pc' := 130) (L' := [some (.inr (.inr (some 0))), some (.inl p1), some (.inl p2), some (.inl p3), some (.inl v_h29), some (.inl (dt19 9 (((p2 * 11) + v_h29)).toNat)), some (.inl 1)]) (st' := [.inl 0, .inl p2, .inr (.inr (some 1))]) (w' := (SH, dt33)) rfl ?_
          refine go_callq PM79 PM1 (Q' := _) rfl rfl rfl rfl (sp_X0_saidOf_f L xs sio (d + 3) dt33 hI34  p2 (by first | exact h_p2 | exact bnd h_p2 (by decide) (by decide) | exact ⟨by (first | omega | (have z0_ := unhid c17; omega)), by (first | omega | (have z0_ := unhid c17; omega))⟩) 0 ⟨by decide, by decide⟩ (by first | exact True.intro | with_reducible assumption | exact unhid (by with_reducible assumption) | rfl | (first | omega | (have z0_ := unhid c17; omega)) | trivial | exact wg40 | exact ALK_fr h_p0 hF36 (fun k a b z_ => by simp at z_; (first | omega | (have z0_ := unhid c17; omega))) | (rw [show dt33 9 = dt 9 from funext (hF36 9 (by decide))]; exact h_p0.2.2.1) | (rw [show dt33 7 3 = dt 7 3 from hF36 7 (by decide) 3]; first | (first | omega | (have z0_ := unhid c17; omega)) | exact h_p0.2.2.2.2.1) | (rw [show dt33 10 3 = dt 10 3 from hF36 10 (by decide) 3]; (first | omega | (have z0_ := unhid c17; omega))))) ?_
          rintro _ _ ⟨rfl, h60⟩
          refine ⟨rfl, ?_⟩
          rcases h60 with ⟨rfl, h60⟩
          have sd61 : dt33 9 (((p2 * 11) + (0 : Int))).toNat = SAID F p2.toNat (0 : Int) := by rw [hF36 9 (by decide)]; have z_ := h_p0.2.2.1 p2.toNat (by have w_ := h_p0.2.2.2.2.1; (first | omega | (have z0_ := unhid c17; omega))) ((0 : Int)).toNat (by (first | omega | (have z0_ := unhid c17; omega))); rw [show 11 * p2.toNat + ((0 : Int)).toNat = (((p2 * 11) + (0 : Int))).toNat by first | with_reducible assumption | exact unhid (by with_reducible assumption) | (first | omega | (have z0_ := unhid c17; omega)), show ((((0 : Int)).toNat : Nat) : Int) = (0 : Int) by first | with_reducible assumption | exact unhid (by with_reducible assumption) | (first | omega | (have z0_ := unhid c17; omega))] at z_; exact z_
          refine go_toq PM79 (k := 13) (pc' := 159) (L' := [some (.inr (.inr (some 0))), some (.inl p1), some (.inl p2), some (.inl p3), some (.inl v_h29), some (.inl (dt33 9 (((p2 * 11) + 0)).toNat)), some (.inl 1)]) (st' := [.inl 1, .inl v_h29, .inl (dt33 9 (((p2 * 11) + 0)).toNat), .inl p3, .inl p2, .inl p1, .inr (.inr (some 12))]) (w' := (SH, dt33)) rfl ?_
          have r62 : 0 ≤ dt33 12 3 ∧ dt33 12 3 ≤ 300 := InvC_get hI34 12 3 rfl rfl
          refine go_callq PM79 PM40 (Q' := _) rfl rfl rfl rfl (sp_X2_add_12 L xs sio (d + 3) dt33 hI34  p1 (by first | exact h_p1 | exact bnd h_p1 (by decide) (by decide) | exact ⟨by (first | omega | (have z0_ := unhid c17; omega)), by (first | omega | (have z0_ := unhid c17; omega))⟩) p2 (by first | exact h_p2 | exact bnd h_p2 (by decide) (by decide) | exact ⟨by (first | omega | (have z0_ := unhid c17; omega)), by (first | omega | (have z0_ := unhid c17; omega))⟩) p3 (by first | exact h_p3 | exact bnd h_p3 (by decide) (by decide) | exact ⟨by (first | omega | (have z0_ := unhid c17; omega)), by (first | omega | (have z0_ := unhid c17; omega))⟩) (dt33 9 (((p2 * 11) + 0)).toNat) ⟨by (first | omega | (have z0_ := unhid c17; omega)), by (first | omega | (have z0_ := unhid c17; omega))⟩ v_h29 (by first | exact bnd h29r (by decide) (by decide) | exact ⟨by (first | omega | (have z0_ := unhid c17; omega)), by (first | omega | (have z0_ := unhid c17; omega))⟩) 1 ⟨by decide, by decide⟩ ) ?_
          rintro _ _ ⟨dt64, rfl, hI65, hF66, h63⟩
          refine ⟨rfl, ?_⟩
          have hF67 : Fr [1, 12, 13, 71, 72, 73, 74] dt dt64 := Fr_tr hF36 hF66 (by decide)
          have w68 : dt64 1 0 = dt33 1 0 := hF66 1 (by decide) 0
          rcases h63 with ⟨rfl, h63⟩ | ⟨v_h63, rfl, h63r, h63⟩
          · skip
            obtain ⟨h63_0, h63_1⟩ := h63
            have st69 : dt64 1 0 = (DRW (DRW (dt 1 0))) := (hF66 1 (by decide) 0).trans st39
            have wg70 : WGT (dt64 72) (dt64 71 1) F (FQ F p1 p2 p3) (dt 11 (((p1 * 4) + 0)).toNat) := by rw [show dt64 72 = dt33 72 from funext (hF66 72 (by decide)), hF66 71 (by decide) 1]; exact wg40
            have hA71 := wg70.2.2
            have hP72 := wg70.2.1
            refine go_retq PM79 (k := 2) (r := some (.inl (dt33 9 (((p2 * 11) + 0)).toNat))) (w1 := (SH, dt64)) rfl ?_
            exact ⟨dt64, rfl, hI65, hF67, (Or.inr ⟨_, rfl, ⟨by (first | omega | (have z0_ := unhid c17; omega)), by (first | omega | (have z0_ := unhid c17; omega))⟩, ⟨by first | exact True.intro | with_reducible assumption | exact unhid (by with_reducible assumption) | rfl | (first | omega | (have z0_ := unhid c17; omega)) | trivial, by exact st69, by first | exact True.intro | with_reducible assumption | exact unhid (by with_reducible assumption) | rfl | (first | omega | (have z0_ := unhid c17; omega)) | trivial, by unfold AKB; rw [← ec_.1]; first | (rw [if_pos (by (first | omega | (have z0_ := unhid c17; omega)))]; exact sd61) | (rw [if_neg (by (first | omega | (have z0_ := unhid c17; omega))), if_pos (by (first | omega | (have z0_ := unhid c17; omega)))]; exact dv24) | (rw [if_neg (by (first | omega | (have z0_ := unhid c17; omega))), if_neg (by (first | omega | (have z0_ := unhid c17; omega))), ← hA_, ← dv24, ← h29]; exact sd31)⟩⟩)⟩
          · skip
            obtain ⟨h63_0, h63_1, h63_2⟩ := h63
            have st73 : dt64 1 0 = (DRW (DRW (dt 1 0))) := (hF66 1 (by decide) 0).trans st39
            have wg74 : WGT (dt64 72) (dt64 71 1) F (FQ F p1 p2 p3) (dt 11 (((p1 * 4) + 0)).toNat) := by rw [show dt64 72 = dt33 72 from funext (hF66 72 (by decide)), hF66 71 (by decide) 1]; exact wg40
            have hA75 := wg74.2.2
            have hP76 := wg74.2.1
            refine go_retq PM79 (k := 2) (r := some (.inl (dt33 9 (((p2 * 11) + 0)).toNat))) (w1 := (SH, dt64)) rfl ?_
            exact ⟨dt64, rfl, hI65, hF67, (Or.inr ⟨_, rfl, ⟨by (first | omega | (have z0_ := unhid c17; omega)), by (first | omega | (have z0_ := unhid c17; omega))⟩, ⟨by first | exact True.intro | with_reducible assumption | exact unhid (by with_reducible assumption) | rfl | (first | omega | (have z0_ := unhid c17; omega)) | trivial, by exact st73, by first | exact True.intro | with_reducible assumption | exact unhid (by with_reducible assumption) | rfl | (first | omega | (have z0_ := unhid c17; omega)) | trivial, by unfold AKB; rw [← ec_.1]; first | (rw [if_pos (by (first | omega | (have z0_ := unhid c17; omega)))]; exact sd61) | (rw [if_neg (by (first | omega | (have z0_ := unhid c17; omega))), if_pos (by (first | omega | (have z0_ := unhid c17; omega)))]; exact dv24) | (rw [if_neg (by (first | omega | (have z0_ := unhid c17; omega))), if_neg (by (first | omega | (have z0_ := unhid c17; omega))), ← hA_, ← dv24, ← h29]; exact sd31)⟩⟩)⟩
      · skip
        refine go_toq PM79 (k := 2) (pc' := 53) (L' := [some (.inr (.inr (some 0))), some (.inl p1), some (.inl p2), some (.inl p3), some (.inl (-1)), none, none]) (st' := [.inl 4, .inr (.inr (some 0))]) (w' := (SH, dt8)) rfl ?_
        refine go_callq PM79 PM110 (Q' := _) rfl rfl rfl rfl (sp_X5_draw_f L xs sio (d + 4) dt8 hI9  4 ⟨by decide, by decide⟩ ) ?_
        rintro _ _ ⟨dt78, rfl, hI79, hF80, h77⟩
        refine ⟨rfl, ?_⟩
        have hF81 : Fr [1, 12, 13, 71, 72, 73, 74] dt dt78 := Fr_tr hF11 hF80 (by decide)
        have w82 : dt78 12 3 = dt8 12 3 := hF80 12 (by decide) 3
        rcases h77 with ⟨v_h77, rfl, h77r, h77⟩
        obtain ⟨h77_0, h77_1, h77_2⟩ := h77
        have dv83 : v_h77 = DVW (DRW (dt 1 0)) 4 := by have z_ := h77_2; rw [st15] at z_; exact z_
        have st84 : dt78 1 0 = DRW (dt 1 0) := by rw [h77_1, st15]
        have wg85 : WGT (dt78 72) (dt78 71 1) F (FQ F p1 p2 p3) (dt 11 (((p1 * 4) + 0)).toNat) := by rw [show dt78 72 = dt8 72 from funext (hF80 72 (by decide)), hF80 71 (by decide) 1]; exact wg14
        have hA86 := wg85.2.2
        have hP87 := wg85.2.1
        refine go_toq PM79 (k := 4) (pc' := 96) (L' := [some (.inr (.inr (some 0))), some (.inl p1), some (.inl p2), some (.inl p3), some (.inl (-1)), some (.inl v_h77), none]) (st' := [.inl 100, .inr (.inr (some 0))]) (w' := (SH, dt78)) rfl ?_
        refine go_callq PM79 PM110 (Q' := _) rfl rfl rfl rfl (sp_X5_draw_f L xs sio (d + 4) dt78 hI79  100 ⟨by decide, by decide⟩ ) ?_
        rintro _ _ ⟨dt89, rfl, hI90, hF91, h88⟩
        refine ⟨rfl, ?_⟩
        have hF92 : Fr [1, 12, 13, 71, 72, 73, 74] dt dt89 := Fr_tr hF81 hF91 (by decide)
        have w93 : dt89 12 3 = dt78 12 3 := hF91 12 (by decide) 3
        rcases h88 with ⟨v_h88, rfl, h88r, h88⟩
        obtain ⟨h88_0, h88_1, h88_2⟩ := h88
        have dv94 : v_h88 = DVW (DRW (DRW (dt 1 0))) 100 := by have z_ := h88_2; rw [st84] at z_; exact z_
        have st95 : dt89 1 0 = DRW (DRW (dt 1 0)) := by rw [h88_1, st84]
        have wg96 : WGT (dt89 72) (dt89 71 1) F (FQ F p1 p2 p3) (dt 11 (((p1 * 4) + 0)).toNat) := by rw [show dt89 72 = dt78 72 from funext (hF91 72 (by decide)), hF91 71 (by decide) 1]; exact wg85
        have hA97 := wg96.2.2
        have hP98 := wg96.2.1
        refine go_toq PM79 (k := 4) (pc' := 108) (L' := [some (.inr (.inr (some 0))), some (.inl p1), some (.inl p2), some (.inl p3), some (.inl (-1)), some (.inl v_h77), none]) (st' := [.inl 8, .inr (.inr (some 72)), .inl v_h88]) (w' := (SH, dt89)) rfl ?_
        have r99 : 0 ≤ dt89 72 8 ∧ dt89 72 8 ≤ 100 := InvC_get hI90 72 8 rfl rfl
        refine go_smpq PM79 (L' := [some (.inr (.inr (some 0))), some (.inl p1), some (.inl p2), some (.inl p3), some (.inl (-1)), some (.inl v_h77), none]) (st' := [.inl (dt89 72 8), .inl v_h88]) (w' := (SH, dt89)) rfl rfl (s_iald (n := 9) (f := dt89 72) rfl ⟨by decide, by decide⟩) ?_
        refine go_ifq PM79 (k := 0) (p1 := 116) (p2 := 112) (L' := [some (.inr (.inr (some 0))), some (.inl p1), some (.inl p2), some (.inl p3), some (.inl (-1)), some (.inl v_h77), none]) (st' := []) (w' := (SH, dt89)) rfl (c_ge (a := v_h88) (b := dt89 72 8) (by first | exact bnd h88r (by decide) (by decide) | exact ⟨by omega, by omega⟩) (by first | exact bnd r99 (by decide) (by decide) | exact ⟨by omega, by omega⟩)) (fun c100 => ?_) (fun c100 => ?_)
        · skip
          refine go_toq PM79 (k := 15) (pc' := 159) (L' := [some (.inr (.inr (some 0))), some (.inl p1), some (.inl p2), some (.inl p3), some (.inl (-1)), some (.inl v_h77), some (.inl 0)]) (st' := [.inl 0, .inl (-1), .inl v_h77, .inl p3, .inl p2, .inl p1, .inr (.inr (some 12))]) (w' := (SH, dt89)) rfl ?_
          have r101 : 0 ≤ dt89 12 3 ∧ dt89 12 3 ≤ 300 := InvC_get hI90 12 3 rfl rfl
          refine go_callq PM79 PM40 (Q' := _) rfl rfl rfl rfl (sp_X2_add_12 L xs sio (d + 3) dt89 hI90  p1 (by first | exact h_p1 | exact bnd h_p1 (by decide) (by decide) | exact ⟨by omega, by omega⟩) p2 (by first | exact h_p2 | exact bnd h_p2 (by decide) (by decide) | exact ⟨by omega, by omega⟩) p3 (by first | exact h_p3 | exact bnd h_p3 (by decide) (by decide) | exact ⟨by omega, by omega⟩) v_h77 (by first | exact bnd h77r (by decide) (by decide) | exact ⟨by omega, by omega⟩) (-1) ⟨by decide, by decide⟩ 0 ⟨by decide, by decide⟩ ) ?_
          rintro _ _ ⟨dt103, rfl, hI104, hF105, h102⟩
          refine ⟨rfl, ?_⟩
          have hF106 : Fr [1, 12, 13, 71, 72, 73, 74] dt dt103 := Fr_tr hF92 hF105 (by decide)
          have w107 : dt103 1 0 = dt89 1 0 := hF105 1 (by decide) 0
          rcases h102 with ⟨rfl, h102⟩ | ⟨v_h102, rfl, h102r, h102⟩
          · skip
            obtain ⟨h102_0, h102_1⟩ := h102
            have st108 : dt103 1 0 = (DRW (DRW (dt 1 0))) := (hF105 1 (by decide) 0).trans st95
            have wg109 : WGT (dt103 72) (dt103 71 1) F (FQ F p1 p2 p3) (dt 11 (((p1 * 4) + 0)).toNat) := by rw [show dt103 72 = dt89 72 from funext (hF105 72 (by decide)), hF105 71 (by decide) 1]; exact wg96
            have hA110 := wg109.2.2
            have hP111 := wg109.2.1
            refine go_retq PM79 (k := 2) (r := some (.inl v_h77)) (w1 := (SH, dt103)) rfl ?_
            exact ⟨dt103, rfl, hI104, hF106, (Or.inr ⟨_, rfl, (by first | exact bnd h77r (by decide) (by decide) | exact ⟨by omega, by omega⟩), ⟨by first | exact True.intro | with_reducible assumption | rfl | omega | trivial, by exact st108, by first | exact True.intro | with_reducible assumption | rfl | omega | trivial, by unfold AKB; rw [← ec_.1]; first | (rw [if_pos (by omega)]; exact hI) | (rw [if_neg (by omega), if_pos (by omega)]; exact dv83) | (rw [if_neg (by omega), if_neg (by omega), ← hA_, ← dv83, ← hI]; exact hI)⟩⟩)⟩
          · skip
            obtain ⟨h102_0, h102_1, h102_2⟩ := h102
            have st112 : dt103 1 0 = (DRW (DRW (dt 1 0))) := (hF105 1 (by decide) 0).trans st95
            have wg113 : WGT (dt103 72) (dt103 71 1) F (FQ F p1 p2 p3) (dt 11 (((p1 * 4) + 0)).toNat) := by rw [show dt103 72 = dt89 72 from funext (hF105 72 (by decide)), hF105 71 (by decide) 1]; exact wg96
            have hA114 := wg113.2.2
            have hP115 := wg113.2.1
            refine go_retq PM79 (k := 2) (r := some (.inl v_h77)) (w1 := (SH, dt103)) rfl ?_
            exact ⟨dt103, rfl, hI104, hF106, (Or.inr ⟨_, rfl, (by first | exact bnd h77r (by decide) (by decide) | exact ⟨by omega, by omega⟩), ⟨by first | exact True.intro | with_reducible assumption | rfl | omega | trivial, by exact st112, by first | exact True.intro | with_reducible assumption | rfl | omega | trivial, by unfold AKB; rw [← ec_.1]; first | (rw [if_pos (by omega)]; exact hI) | (rw [if_neg (by omega), if_pos (by omega)]; exact dv83) | (rw [if_neg (by omega), if_neg (by omega), ← hA_, ← dv83, ← hI]; exact hI)⟩⟩)⟩
        · skip
          refine go_toq PM79 (k := 9) (pc' := 130) (L' := [some (.inr (.inr (some 0))), some (.inl p1), some (.inl p2), some (.inl p3), some (.inl (-1)), some (.inl v_h77), some (.inl 1)]) (st' := [.inl 0, .inl p2, .inr (.inr (some 1))]) (w' := (SH, dt89)) rfl ?_
          refine go_callq PM79 PM1 (Q' := _) rfl rfl rfl rfl (sp_X0_saidOf_f L xs sio (d + 3) dt89 hI90  p2 (by first | exact h_p2 | exact bnd h_p2 (by decide) (by decide) | exact ⟨by omega, by omega⟩) 0 ⟨by decide, by decide⟩ (by first | exact True.intro | with_reducible assumption | rfl | omega | trivial | exact wg96 | exact ALK_fr h_p0 hF92 (fun k a b z_ => by simp at z_; omega) | (rw [show dt89 9 = dt 9 from funext (hF92 9 (by decide))]; exact h_p0.2.2.1) | (rw [show dt89 7 3 = dt 7 3 from hF92 7 (by decide) 3]; first | omega | exact h_p0.2.2.2.2.1) | (rw [show dt89 10 3 = dt 10 3 from hF92 10 (by decide) 3]; omega))) ?_
          rintro _ _ ⟨rfl, h116⟩
          refine ⟨rfl, ?_⟩
          rcases h116 with ⟨rfl, h116⟩
          have sd117 : dt89 9 (((p2 * 11) + (0 : Int))).toNat = SAID F p2.toNat (0 : Int) := by rw [hF92 9 (by decide)]; have z_ := h_p0.2.2.1 p2.toNat (by have w_ := h_p0.2.2.2.2.1; omega) ((0 : Int)).toNat (by omega); rw [show 11 * p2.toNat + ((0 : Int)).toNat = (((p2 * 11) + (0 : Int))).toNat by first | with_reducible assumption | omega, show ((((0 : Int)).toNat : Nat) : Int) = (0 : Int) by first | with_reducible assumption | omega] at z_; exact z_
          refine go_toq PM79 (k := 13) (pc' := 159) (L' := [some (.inr (.inr (some 0))), some (.inl p1), some (.inl p2), some (.inl p3), some (.inl (-1)), some (.inl (dt89 9 (((p2 * 11) + 0)).toNat)), some (.inl 1)]) (st' := [.inl 1, .inl (-1), .inl (dt89 9 (((p2 * 11) + 0)).toNat), .inl p3, .inl p2, .inl p1, .inr (.inr (some 12))]) (w' := (SH, dt89)) rfl ?_
          have r118 : 0 ≤ dt89 12 3 ∧ dt89 12 3 ≤ 300 := InvC_get hI90 12 3 rfl rfl
          refine go_callq PM79 PM40 (Q' := _) rfl rfl rfl rfl (sp_X2_add_12 L xs sio (d + 3) dt89 hI90  p1 (by first | exact h_p1 | exact bnd h_p1 (by decide) (by decide) | exact ⟨by omega, by omega⟩) p2 (by first | exact h_p2 | exact bnd h_p2 (by decide) (by decide) | exact ⟨by omega, by omega⟩) p3 (by first | exact h_p3 | exact bnd h_p3 (by decide) (by decide) | exact ⟨by omega, by omega⟩) (dt89 9 (((p2 * 11) + 0)).toNat) ⟨by omega, by omega⟩ (-1) ⟨by decide, by decide⟩ 1 ⟨by decide, by decide⟩ ) ?_
          rintro _ _ ⟨dt120, rfl, hI121, hF122, h119⟩
          refine ⟨rfl, ?_⟩
          have hF123 : Fr [1, 12, 13, 71, 72, 73, 74] dt dt120 := Fr_tr hF92 hF122 (by decide)
          have w124 : dt120 1 0 = dt89 1 0 := hF122 1 (by decide) 0
          rcases h119 with ⟨rfl, h119⟩ | ⟨v_h119, rfl, h119r, h119⟩
          · skip
            obtain ⟨h119_0, h119_1⟩ := h119
            have st125 : dt120 1 0 = (DRW (DRW (dt 1 0))) := (hF122 1 (by decide) 0).trans st95
            have wg126 : WGT (dt120 72) (dt120 71 1) F (FQ F p1 p2 p3) (dt 11 (((p1 * 4) + 0)).toNat) := by rw [show dt120 72 = dt89 72 from funext (hF122 72 (by decide)), hF122 71 (by decide) 1]; exact wg96
            have hA127 := wg126.2.2
            have hP128 := wg126.2.1
            refine go_retq PM79 (k := 2) (r := some (.inl (dt89 9 (((p2 * 11) + 0)).toNat))) (w1 := (SH, dt120)) rfl ?_
            exact ⟨dt120, rfl, hI121, hF123, (Or.inr ⟨_, rfl, ⟨by omega, by omega⟩, ⟨by first | exact True.intro | with_reducible assumption | rfl | omega | trivial, by exact st125, by first | exact True.intro | with_reducible assumption | rfl | omega | trivial, by unfold AKB; rw [← ec_.1]; first | (rw [if_pos (by omega)]; exact sd117) | (rw [if_neg (by omega), if_pos (by omega)]; exact dv83) | (rw [if_neg (by omega), if_neg (by omega), ← hA_, ← dv83, ← hI]; exact hI)⟩⟩)⟩
          · skip
            obtain ⟨h119_0, h119_1, h119_2⟩ := h119
            have st129 : dt120 1 0 = (DRW (DRW (dt 1 0))) := (hF122 1 (by decide) 0).trans st95
            have wg130 : WGT (dt120 72) (dt120 71 1) F (FQ F p1 p2 p3) (dt 11 (((p1 * 4) + 0)).toNat) := by rw [show dt120 72 = dt89 72 from funext (hF122 72 (by decide)), hF122 71 (by decide) 1]; exact wg96
            have hA131 := wg130.2.2
            have hP132 := wg130.2.1
            refine go_retq PM79 (k := 2) (r := some (.inl (dt89 9 (((p2 * 11) + 0)).toNat))) (w1 := (SH, dt120)) rfl ?_
            exact ⟨dt120, rfl, hI121, hF123, (Or.inr ⟨_, rfl, ⟨by omega, by omega⟩, ⟨by first | exact True.intro | with_reducible assumption | rfl | omega | trivial, by exact st129, by first | exact True.intro | with_reducible assumption | rfl | omega | trivial, by unfold AKB; rw [← ec_.1]; first | (rw [if_pos (by omega)]; exact sd117) | (rw [if_neg (by omega), if_pos (by omega)]; exact dv83) | (rw [if_neg (by omega), if_neg (by omega), ← hA_, ← dv83, ← hI]; exact hI)⟩⟩)⟩
  · skip
    refine go_retq PM79 (k := 2) (r := some (.inl (-2))) (w1 := (SH, dt)) rfl ?_
    first | exact ⟨dt, rfl, hI, hF, (Or.inl ⟨rfl, ⟨by first | exact True.intro | with_reducible assumption | rfl | omega | trivial, by first | exact True.intro | with_reducible assumption | rfl | omega | trivial, by first | exact True.intro | with_reducible assumption | rfl | omega | trivial⟩⟩)⟩ | exact ⟨dt, rfl, hI, hF, (Or.inr ⟨_, rfl, ⟨by decide, by decide⟩, ⟨by first | exact True.intro | with_reducible assumption | rfl | omega | trivial, by exact hI, by first | exact True.intro | with_reducible assumption | rfl | omega | trivial, by unfold AKB; rw [← ec_.1]; first | (rw [if_pos (by omega)]; exact hI) | (rw [if_neg (by omega), if_pos (by omega)]; exact hI) | (rw [if_neg (by omega), if_neg (by omega), ← hA_, ← hI, ← hI]; exact hI)⟩⟩)⟩
