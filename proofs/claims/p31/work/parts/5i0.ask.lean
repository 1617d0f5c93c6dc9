theorem sp_X3_ruleOf_f (L : Nat) (xs : Nat → Int32) (sio : Option Nat) (d : Nat) (dt : Nat → Nat → Int) (hI : InvC dt) (F : Nat → Int) (fa : Nat → Int) (l : Int) (p1 : Int) (h_p1 : 0 ≤ p1 ∧ p1 ≤ 791) (h_p0 : WGT (dt 72) (dt 71 1) F fa l) (h_p1 : p1 < WS F fa l 8) : GO (am_XX L xs sio) (d) 46 0 [some (.inr (.inr (some 71))), some (.inl p1), none, none] [] (SH, dt) (fun r w2 => w2 = (SH, dt) ∧ ((∃ v : Int, r = some (.inl v) ∧ (0 ≤ v ∧ v ≤ 7) ∧ (v = RLF F fa l p1 8)))) := by
  refine go_toq PM46 (k := 4) (pc' := 4) (L' := [some (.inr (.inr (some 71))), some (.inl p1), some (.inl 0), some (.inl 0)]) (st' := []) (w' := (SH, dt)) rfl ?_
  have loop10 : ∀ (k_ : Nat) (l4_2 : Int) (l4_3 : Int) (i5 : 0 ≤ l4_2 ∧ l4_2 ≤ 792) (i6 : 0 ≤ l4_3 ∧ l4_3 ≤ 8) (i7 : l4_2 = WS F fa l l4_3.toNat) (i8 : l4_2 ≤ p1) (i9 : l4_2 ≤ 99 * l4_3), (9 - l4_3).toNat < k_ → GO (am_XX L xs sio) (d) 46 4 [some (.inr (.inr (some 71))), some (.inl p1), some (.inl l4_2), some (.inl l4_3)] [] (SH, dt) (fun r w2 => w2 = (SH, dt) ∧ ((∃ v : Int, r = some (.inl v) ∧ (0 ≤ v ∧ v ≤ 7) ∧ (v = RLF F fa l p1 8)))) := by
    intro k_
    induction k_ with
    | zero => intro l4_2 l4_3 i5 i6 i7 i8 i9 hm; exact absurd hm (Nat.not_lt_zero _)
    | succ k_ ih_loop10 =>
      intro l4_2 l4_3 i5 i6 i7 i8 i9 hm
      have qS := i7
      have h8_ : ¬ l4_3 = 8 := fun z_ => by have y_ := qS; rw [z_, show (8 : Int).toNat = 8 from rfl] at y_; omega
      have hW_ : l4_3 < 8 → dt 72 l4_3.toNat = WH F fa l l4_3 := fun z_ => (h_p0.1 l4_3.toNat (by omega)).trans (by rw [show ((l4_3.toNat : Nat) : Int) = l4_3 by first | with_reducible assumption | omega])
      replace hW_ := hid hW_
      have hR_ : l4_3 < 8 → _ := fun (z_ : l4_3 < 8) => WH_R7 (f := F) (fa := fa) (l := l) (r := l4_3) (by (first | omega | (have z0_ := unhid hW_; omega)))
      have hs_ := WS_s (f := F) (fa := fa) (l := l) (r := l4_3) (by (first | omega | (have z0_ := unhid hW_; omega)))
      refine go_ifq PM46 (k := 2) (p1 := 32) (p2 := 10) (L' := [some (.inr (.inr (some 71))), some (.inl p1), some (.inl l4_2), some (.inl l4_3)]) (st' := []) (w' := (SH, dt)) rfl (c_ge (a := l4_3) (b := 8) (by first | exact bnd i6 (by decide) (by decide) | exact ⟨by (first | omega | (have z0_ := unhid hW_; omega)), by (first | omega | (have z0_ := unhid hW_; omega))⟩) ⟨by decide, by decide⟩) (fun c11 => ?_) (fun c11 => ?_)
      · skip
        exfalso; (first | omega | (have z0_ := unhid hW_; omega))
      · skip
        refine go_toq PM46 (k := 4) (pc' := 16) (L' := [some (.inr (.inr (some 71))), some (.inl p1), some (.inl l4_2), some (.inl l4_3)]) (st' := [.inl l4_3, .inr (.inr (some 72)), .inl l4_2]) (w' := (SH, dt)) rfl ?_
        have r12 : 0 ≤ dt 72 (l4_3).toNat ∧ dt 72 (l4_3).toNat ≤ 100 := InvC_get hI 72 (l4_3).toNat rfl rfl
        refine go_smpq PM46 (L' := [some (.inr (.inr (some 71))), some (.inl p1), some (.inl l4_2), some (.inl l4_3)]) (st' := [.inl (dt 72 (l4_3).toNat), .inl l4_2]) (w' := (SH, dt)) rfl rfl (s_iald (n := 9) (f := dt 72) rfl (by first | exact bndc i6 c11 (by decide) (by decide) | exact bndx i6 (by decide) (by decide) | exact ⟨by (first | omega | (have z0_ := unhid hW_; omega)), by (first | omega | (have z0_ := unhid hW_; omega))⟩)) ?_
        refine go_ifq PM46 (k := 4) (p1 := 26) (p2 := 24) (L' := [some (.inr (.inr (some 71))), some (.inl p1), some (.inl (l4_2 + (dt 72 (l4_3).toNat))), some (.inl l4_3)]) (st' := []) (w' := (SH, dt)) rfl (c_le (a := l4_2 + (dt 72 (l4_3).toNat)) (b := p1) ⟨by (first | omega | (have z0_ := unhid hW_; omega)), by (first | omega | (have z0_ := unhid hW_; omega))⟩ (by first | exact bnd h_p1 (by decide) (by decide) | exact ⟨by (first | omega | (have z0_ := unhid hW_; omega)), by (first | omega | (have z0_ := unhid hW_; omega))⟩)) (fun c13 => ?_) (fun c13 => ?_)
        · skip
          refine go_toq PM46 (k := 2) (pc' := 4) (L' := [some (.inr (.inr (some 71))), some (.inl p1), some (.inl (l4_2 + (dt 72 (l4_3).toNat))), some (.inl (l4_3 + 1))]) (st' := []) (w' := (SH, dt)) rfl ?_
          exact GO.le (ih_loop10 (l4_2 + (dt 72 (l4_3).toNat)) (l4_3 + 1) (by first | (first | omega | (have z0_ := unhid hW_; omega)) | rfl) (by first | (first | omega | (have z0_ := unhid hW_; omega)) | rfl) (by first | (first | omega | (have z0_ := unhid hW_; omega)) | rfl) (by first | (first | omega | (have z0_ := unhid hW_; omega)) | rfl) (by first | (first | omega | (have z0_ := unhid hW_; omega)) | rfl) (by (first | omega | (have z0_ := unhid hW_; omega)))) ⟨.inl rfl, .inl rfl, .inl rfl, .inl rfl, trivial⟩
        · skip
          refine go_retq PM46 (k := 1) (r := some (.inl l4_3)) (w1 := (SH, dt)) rfl ?_
          exact ⟨rfl, ⟨_, rfl, (by first | exact bnd i6 (by decide) (by decide) | exact bndd i6 c11 (by decide) (by decide) | exact ⟨by (first | omega | (have z0_ := unhid hW_; omega)), by (first | omega | (have z0_ := unhid hW_; omega))⟩), by exact RLF_u ⟨by (first | omega | (have z0_ := unhid hW_; omega)), by (first | omega | (have z0_ := unhid hW_; omega))⟩ (by (first | omega | (have z0_ := unhid hW_; omega))) (by (first | omega | (have z0_ := unhid hW_; omega)))⟩⟩
  exact GO.le (loop10 _ 0 0 (by first | omega | rfl) (by first | omega | rfl) (by first | omega | rfl) (by first | omega | rfl) (by first | omega | rfl) (Nat.lt_succ_self _)) ⟨.inl rfl, .inl rfl, .inl rfl, .inl rfl, trivial⟩
theorem sp_X5_draw_f (L : Nat) (xs : Nat → Int32) (sio : Option Nat) (d : Nat) (dt : Nat → Nat → Int) (hI : InvC dt)  (p1 : Int) (h_p1 : 1 ≤ p1 ∧ p1 ≤ 1000)  : GO (am_XX L xs sio) (d) 110 0 [some (.inr (.inr (some 0))), some (.inl p1)] [] (SH, dt) (fun r w2 => ∃ dt2 : Nat → Nat → Int, w2 = (SH, dt2) ∧ InvC dt2 ∧ Fr [1] dt dt2 ∧ ((∃ v : Int, r = some (.inl v) ∧ (0 ≤ v ∧ v ≤ 999) ∧ (v < p1) ∧ (dt2 1 0 = DRW (dt 1 0)) ∧ (v = DVW (DRW (dt 1 0)) p1)))) := by
  have hF : Fr [1] dt dt := Fr_refl
  have r1 : (-2147483648) ≤ dt 1 0 ∧ dt 1 0 ≤ 2147483647 := InvC_get hI 1 0 rfl rfl
  refine go_toq PM110 (k := 9) (pc' := 19) (L' := [some (.inr (.inr (some 0))), some (.inl p1)]) (st' := [.inl ((1664525 * (dt 1 0)) + 1013904223), .inr (.inr (some 1))]) (w' := (SH, dt)) rfl ?_
  have r2 := wr_RR ((1664525 * (dt 1 0)) + 1013904223)
  have hI3 : InvC (u2 dt 1 0 (wr ((1664525 * (dt 1 0)) + 1013904223))) := InvC_u2 hI (lo := -2147483648) (hi := 2147483647) rfl rfl rfl (by omega) (by omega)
  have hF4 : Fr [1] dt (u2 dt 1 0 (wr ((1664525 * (dt 1 0)) + 1013904223))) := Fr_u2 hF (by decide)
  have w5 : (u2 dt 1 0 (wr ((1664525 * (dt 1 0)) + 1013904223))) 1 0 = wr ((1664525 * (dt 1 0)) + 1013904223) := rfl
  refine go_smpq PM110 (L' := [some (.inr (.inr (some 0))), some (.inl p1)]) (st' := []) (w' := (SH, (u2 dt 1 0 (wr ((1664525 * (dt 1 0)) + 1013904223))))) rfl rfl (s_pfw rfl rfl rfl rfl) ?_
  refine go_ifq PM110 (k := 1) (p1 := 41) (p2 := 26) (L' := [some (.inr (.inr (some 0))), some (.inl p1)]) (st' := []) (w' := (SH, (u2 dt 1 0 (wr ((1664525 * (dt 1 0)) + 1013904223))))) rfl (z_le (a := p1) (by first | exact bnd h_p1 (by decide) (by decide) | exact ⟨by omega, by omega⟩)) (fun c6 => ?_) (fun c6 => ?_)
  · exfalso; omega
  · skip
    have r7 : 0 ≤ am_ushr (wr ((1664525 * (dt 1 0)) + 1013904223)) 8 ∧ am_ushr (wr ((1664525 * (dt 1 0)) + 1013904223)) 8 ≤ 16777215 := ushr8_R
    refine go_toq PM110 (k := 6) (pc' := 37) (L' := [some (.inr (.inr (some 0))), some (.inl p1)]) (st' := [.inl p1, .inl (am_ushr (wr ((1664525 * (dt 1 0)) + 1013904223)) 8)]) (w' := (SH, (u2 dt 1 0 (wr ((1664525 * (dt 1 0)) + 1013904223))))) rfl ?_
    have r8 : 0 ≤ (am_ushr (wr ((1664525 * (dt 1 0)) + 1013904223)) 8) % p1 ∧ (am_ushr (wr ((1664525 * (dt 1 0)) + 1013904223)) 8) % p1 < p1 := mod_R (by omega)
    refine go_smpq PM110 (L' := [some (.inr (.inr (some 0))), some (.inl p1)]) (st' := [.inl ((am_ushr (wr ((1664525 * (dt 1 0)) + 1013904223)) 8) % p1)]) (w' := (SH, (u2 dt 1 0 (wr ((1664525 * (dt 1 0)) + 1013904223))))) rfl rfl (s_iremc ⟨by omega, by omega⟩ ⟨by omega, by omega⟩) ?_
    refine go_retq PM110 (k := 1) (r := some (.inl ((am_ushr (wr ((1664525 * (dt 1 0)) + 1013904223)) 8) % p1))) (w1 := (SH, (u2 dt 1 0 (wr ((1664525 * (dt 1 0)) + 1013904223))))) rfl ?_
    exact ⟨(u2 dt 1 0 (wr ((1664525 * (dt 1 0)) + 1013904223))), rfl, hI3, hF4, ⟨_, rfl, ⟨by omega, by omega⟩, ⟨by first | exact True.intro | with_reducible assumption | rfl | omega | trivial, by first | rfl | (unfold DRW; simp only [*]) | exact u2_eq, by unfold DVW DRW; first | rfl | (rw [u2_eq])⟩⟩⟩
set_option maxRecDepth 20000 in
theorem sp_X6_draw_f (L : Nat) (xs : Nat → Int32) (sio : Option Nat) (d : Nat) (dt : Nat → Nat → Int) (hI : InvC dt) (hM : MW (dt 80))  (p1 : Int) (h_p1 : 1 ≤ p1 ∧ p1 ≤ 1000)  : GO (am_XX L xs sio) (d) 150 0 [some (.inr (.inr (some 79))), some (.inl p1)] [] (SH, dt) (fun r w2 => ∃ dt2 : Nat → Nat → Int, w2 = (SH, dt2) ∧ InvC dt2 ∧ Fr [80] dt dt2 ∧ ((∃ v : Int, r = some (.inl v) ∧ (0 ≤ v ∧ v ≤ 999) ∧ (v < p1) ∧ (dt2 80 0 = wr (1664525 * dt 80 0 + 1013904223)) ∧ (∀ j, 1 ≤ j → dt2 80 j = dt 80 j) ∧ (MW (dt2 80)) ∧ (v = DVW (DRW (dt 80 0)) p1)))) := by
  have hF : Fr [80] dt dt := Fr_refl
  refine go_toq PM150 (k := 7) (pc' := 12) (L' := [some (.inr (.inr (some 79))), some (.inl p1)]) (st' := [.inl 0, .inr (.inr (some 80)), .inl 1664525, .inl 0, .inr (.inr (some 80))]) (w' := (SH, dt)) rfl ?_
  have r1 : (-2147483648) ≤ dt 80 0 ∧ dt 80 0 ≤ 2147483647 := InvC_get hI 80 0 rfl rfl
  refine go_smpq PM150 (L' := [some (.inr (.inr (some 79))), some (.inl p1)]) (st' := [.inl (dt 80 0), .inl 1664525, .inl 0, .inr (.inr (some 80))]) (w' := (SH, dt)) rfl rfl (s_iald (n := 7460) (f := dt 80) rfl ⟨by decide, by decide⟩) ?_
  refine go_toq PM150 (k := 3) (pc' := 17) (L' := [some (.inr (.inr (some 79))), some (.inl p1)]) (st' := [.inl ((1664525 * (dt 80 0)) + 1013904223), .inl 0, .inr (.inr (some 80))]) (w' := (SH, dt)) rfl ?_
  have r2 := wr_RR ((1664525 * (dt 80 0)) + 1013904223)
  have hI3 : InvC (u2 dt 80 0 (wr ((1664525 * (dt 80 0)) + 1013904223))) := InvC_u2 hI (lo := -2147483648) (hi := 2147483647) rfl rfl rfl (by omega) (by omega)
  have hF4 : Fr [80] dt (u2 dt 80 0 (wr ((1664525 * (dt 80 0)) + 1013904223))) := Fr_u2 hF (by decide)
  refine go_smpq PM150 (L' := [some (.inr (.inr (some 79))), some (.inl p1)]) (st' := []) (w' := (SH, (u2 dt 80 0 (wr ((1664525 * (dt 80 0)) + 1013904223))))) rfl rfl (s_iastw (n := 7460) rfl ⟨by decide, by decide⟩) ?_
  refine go_toq PM150 (k := 3) (pc' := 23) (L' := [some (.inr (.inr (some 79))), some (.inl p1)]) (st' := [.inl 0, .inr (.inr (some 80))]) (w' := (SH, (u2 dt 80 0 (wr ((1664525 * (dt 80 0)) + 1013904223))))) rfl ?_
  refine go_smpq PM150 (L' := [some (.inr (.inr (some 79))), some (.inl p1)]) (st' := [.inl (wr ((1664525 * (dt 80 0)) + 1013904223))]) (w' := (SH, (u2 dt 80 0 (wr ((1664525 * (dt 80 0)) + 1013904223))))) rfl rfl (s_iald (n := 7460) (f := (u2 dt 80 0 (wr ((1664525 * (dt 80 0)) + 1013904223))) 80) rfl ⟨by decide, by decide⟩) ?_
  have r5 : 0 ≤ am_ushr (wr ((1664525 * (dt 80 0)) + 1013904223)) 8 ∧ am_ushr (wr ((1664525 * (dt 80 0)) + 1013904223)) 8 ≤ 16777215 := ushr8_R
  refine go_toq PM150 (k := 3) (pc' := 28) (L' := [some (.inr (.inr (some 79))), some (.inl p1)]) (st' := [.inl p1, .inl (am_ushr (wr ((1664525 * (dt 80 0)) + 1013904223)) 8)]) (w' := (SH, (u2 dt 80 0 (wr ((1664525 * (dt 80 0)) + 1013904223))))) rfl ?_
  have r6 : 0 ≤ (am_ushr (wr ((1664525 * (dt 80 0)) + 1013904223)) 8) % p1 ∧ (am_ushr (wr ((1664525 * (dt 80 0)) + 1013904223)) 8) % p1 < p1 := mod_R (by omega)
  refine go_smpq PM150 (L' := [some (.inr (.inr (some 79))), some (.inl p1)]) (st' := [.inl ((am_ushr (wr ((1664525 * (dt 80 0)) + 1013904223)) 8) % p1)]) (w' := (SH, (u2 dt 80 0 (wr ((1664525 * (dt 80 0)) + 1013904223))))) rfl rfl (s_iremc ⟨by omega, by omega⟩ ⟨by omega, by omega⟩) ?_
  refine go_retq PM150 (k := 0) (r := some (.inl ((am_ushr (wr ((1664525 * (dt 80 0)) + 1013904223)) 8) % p1))) (w1 := (SH, (u2 dt 80 0 (wr ((1664525 * (dt 80 0)) + 1013904223))))) rfl ?_
  exact ⟨(u2 dt 80 0 (wr ((1664525 * (dt 80 0)) + 1013904223))), rfl, hI3, hF4, ⟨_, rfl, ⟨by omega, by omega⟩, ⟨by first | exact True.intro | with_reducible assumption | rfl | omega | trivial, by first | exact u2_eq | rfl, by exact fun j hj => u2_ne (by omega), by exact MW_cop hM (fun j h1 _ => u2_ne (by omega)), by unfold DVW DRW; first | rfl | (rw [u2_eq])⟩⟩⟩
