theorem sp_X5_level_f (L : Nat) (xs : Nat → Int32) (sio : Option Nat) (d : Nat) (dt : Nat → Nat → Int) (hI : InvC dt)  (p1 : Int) (h_p1 : 0 ≤ p1 ∧ p1 ≤ 1000)  : GO (am_XX L xs sio) (d) 143 0 [some (.inl p1), none, none] [] (SH, dt) (fun r w2 => w2 = (SH, dt) ∧ ((∃ v : Int, r = some (.inl v) ∧ ((-50) ≤ v ∧ v ≤ 110) ∧ (v = LVL p1)))) := by
  refine go_ifq PM143 (k := 1) (p1 := 7) (p2 := 4) (L' := [some (.inl p1), none, none]) (st' := []) (w' := (SH, dt)) rfl (z_gt (a := p1) (by first | exact bnd h_p1 (by decide) (by decide) | exact ⟨by omega, by omega⟩)) (fun c1 => ?_) (fun c1 => ?_)
  · skip
    refine go_toq PM143 (k := 2) (pc' := 9) (L' := [some (.inl p1), some (.inl 0), none]) (st' := []) (w' := (SH, dt)) rfl ?_
    have loop8 : ∀ (k_ : Nat) (l9_1 : Int) (i6 : 0 ≤ l9_1 ∧ l9_1 ≤ 20) (i7 : l9_1 = 0 ∨ 0 < am_shr p1 l9_1), (21 - l9_1).toNat < k_ → GO (am_XX L xs sio) (d) 143 9 [some (.inl p1), some (.inl l9_1), none] [] (SH, dt) (fun r w2 => w2 = (SH, dt) ∧ ((∃ v : Int, r = some (.inl v) ∧ ((-50) ≤ v ∧ v ≤ 110) ∧ (v = LVL p1)))) := by
      intro k_
      induction k_ with
      | zero => intro l9_1 i6 i7 hm; exact absurd hm (Nat.not_lt_zero _)
      | succ k_ ih_loop8 =>
        intro l9_1 i6 i7 hm
        replace i7 := hid i7
        have qL := i7
        have hz_ : l9_1 = 20 → am_shr p1 (l9_1 + 1) ≤ 0 := fun e_ => by rw [shr_d ⟨by (first | omega | (have z0_ := unhid i7; omega)), by (first | omega | (have z0_ := unhid i7; omega))⟩ ⟨by (first | omega | (have z0_ := unhid i7; omega)), by (first | omega | (have z0_ := unhid i7; omega))⟩, show (l9_1 + 1).toNat = 21 by first | with_reducible assumption | exact unhid (by with_reducible assumption) | (first | omega | (have z0_ := unhid i7; omega))]; show p1 / 2097152 ≤ 0; (first | omega | (have z0_ := unhid i7; omega))
        replace hz_ := hid hz_
        refine go_ifq PM143 (k := 2) (p1 := 29) (p2 := 15) (L' := [some (.inl p1), some (.inl l9_1), none]) (st' := []) (w' := (SH, dt)) rfl (c_ge (a := l9_1) (b := 20) (by first | exact bnd i6 (by decide) (by decide) | exact ⟨by (first | omega | (have z0_ := unhid i7; have z1_ := unhid hz_; omega)), by (first | omega | (have z0_ := unhid i7; have z1_ := unhid hz_; omega))⟩) ⟨by decide, by decide⟩) (fun c9 => ?_) (fun c9 => ?_)
        · skip
          have r10 : 1 ≤ am_shl 1 l9_1 ∧ am_shl 1 l9_1 ≤ 1073741824 := shl1_R ⟨by (first | omega | (have z0_ := unhid i7; have z1_ := unhid hz_; omega)), by (first | omega | (have z0_ := unhid i7; have z1_ := unhid hz_; omega))⟩
          refine go_toq PM143 (k := 13) (pc' := 44) (L' := [some (.inl p1), some (.inl l9_1), some (.inl (am_shl 1 l9_1))]) (st' := [.inl (am_shl 1 l9_1), .inl ((p1 - (am_shl 1 l9_1)) * 10), .inl (10 * l9_1)]) (w' := (SH, dt)) rfl ?_
          refine go_smpq PM143 (L' := [some (.inl p1), some (.inl l9_1), some (.inl (am_shl 1 l9_1))]) (st' := [.inl ((wr ((p1 - (am_shl 1 l9_1)) * 10)).tdiv (wr (am_shl 1 l9_1))), .inl (10 * l9_1)]) (w' := (SH, dt)) rfl rfl (s_idiv (by rw [wr_R ⟨by (first | omega | (have z0_ := unhid i7; have z1_ := unhid hz_; omega)), by (first | omega | (have z0_ := unhid i7; have z1_ := unhid hz_; omega))⟩]; (first | omega | (have z0_ := unhid i7; have z1_ := unhid hz_; omega)))) ?_
          refine go_toq PM143 (k := 1) (pc' := 46) (L' := [some (.inl p1), some (.inl l9_1), some (.inl (am_shl 1 l9_1))]) (st' := [.inl ((10 * l9_1) + ((wr ((p1 - (am_shl 1 l9_1)) * 10)).tdiv (wr (am_shl 1 l9_1))))]) (w' := (SH, dt)) rfl ?_
          have hv_ : (10 * l9_1) + ((wr ((p1 - (am_shl 1 l9_1)) * 10)).tdiv (wr (am_shl 1 l9_1))) = LVL p1 := LVL_c ⟨by (first | omega | (have z0_ := unhid i7; have z1_ := unhid hz_; omega)), by (first | omega | (have z0_ := unhid i7; have z1_ := unhid hz_; omega))⟩ ⟨by (first | omega | (have z0_ := unhid i7; have z1_ := unhid hz_; omega)), by (first | omega | (have z0_ := unhid i7; have z1_ := unhid hz_; omega))⟩ qL (by (first | omega | (have z0_ := unhid i7; have z1_ := unhid hz_; omega)))
          have hb_ := LVL_R (c := p1) (by (first | omega | (have z0_ := unhid i7; have z1_ := unhid hz_; omega)))
          rw [← hv_] at hb_
          refine go_retq PM143 (k := 0) (r := some (.inl ((10 * l9_1) + ((wr ((p1 - (am_shl 1 l9_1)) * 10)).tdiv (wr (am_shl 1 l9_1)))))) (w1 := (SH, dt)) rfl ?_
          exact ⟨rfl, ⟨_, rfl, ⟨by (first | omega | (have z0_ := unhid i7; have z1_ := unhid hz_; omega)), by (first | omega | (have z0_ := unhid i7; have z1_ := unhid hz_; omega))⟩, by first | exact hv_ | (unfold LVL; rw [if_pos (by (first | omega | (have z0_ := unhid i7; have z1_ := unhid hz_; omega)))])⟩⟩
        · skip
          have r11 : 0 ≤ am_shr p1 (l9_1 + 1) ∧ am_shr p1 (l9_1 + 1) ≤ p1 := shr_N ⟨by (first | omega | (have z0_ := unhid i7; have z1_ := unhid hz_; omega)), by (first | omega | (have z0_ := unhid i7; have z1_ := unhid hz_; omega))⟩
          refine go_ifq PM143 (k := 5) (p1 := 29) (p2 := 23) (L' := [some (.inl p1), some (.inl l9_1), none]) (st' := []) (w' := (SH, dt)) rfl (z_le (a := am_shr p1 (l9_1 + 1)) ⟨by (first | omega | (have z0_ := unhid i7; have z1_ := unhid hz_; omega)), by (first | omega | (have z0_ := unhid i7; have z1_ := unhid hz_; omega))⟩) (fun c12 => ?_) (fun c12 => ?_)
          · skip
            have r13 : 1 ≤ am_shl 1 l9_1 ∧ am_shl 1 l9_1 ≤ 1073741824 := shl1_R ⟨by (first | omega | (have z0_ := unhid i7; have z1_ := unhid hz_; omega)), by (first | omega | (have z0_ := unhid i7; have z1_ := unhid hz_; omega))⟩
            refine go_toq PM143 (k := 13) (pc' := 44) (L' := [some (.inl p1), some (.inl l9_1), some (.inl (am_shl 1 l9_1))]) (st' := [.inl (am_shl 1 l9_1), .inl ((p1 - (am_shl 1 l9_1)) * 10), .inl (10 * l9_1)]) (w' := (SH, dt)) rfl ?_
            refine go_smpq PM143 (L' := [some (.inl p1), some (.inl l9_1), some (.inl (am_shl 1 l9_1))]) (st' := [.inl ((wr ((p1 - (am_shl 1 l9_1)) * 10)).tdiv (wr (am_shl 1 l9_1))), .inl (10 * l9_1)]) (w' := (SH, dt)) rfl rfl (s_idiv (by rw [wr_R ⟨by (first | omega | (have z0_ := unhid i7; have z1_ := unhid hz_; omega)), by (first | omega | (have z0_ := unhid i7; have z1_ := unhid hz_; omega))⟩]; (first | omega | (have z0_ := unhid i7; have z1_ := unhid hz_; omega)))) ?_
            refine go_toq PM143 (k := 1) (pc' := 46) (L' := [some (.inl p1), some (.inl l9_1), some (.inl (am_shl 1 l9_1))]) (st' := [.inl ((10 * l9_1) + ((wr ((p1 - (am_shl 1 l9_1)) * 10)).tdiv (wr (am_shl 1 l9_1))))]) (w' := (SH, dt)) rfl ?_
            have hv_ : (10 * l9_1) + ((wr ((p1 - (am_shl 1 l9_1)) * 10)).tdiv (wr (am_shl 1 l9_1))) = LVL p1 := LVL_c ⟨by (first | omega | (have z0_ := unhid i7; have z1_ := unhid hz_; omega)), by (first | omega | (have z0_ := unhid i7; have z1_ := unhid hz_; omega))⟩ ⟨by (first | omega | (have z0_ := unhid i7; have z1_ := unhid hz_; omega)), by (first | omega | (have z0_ := unhid i7; have z1_ := unhid hz_; omega))⟩ qL (by (first | omega | (have z0_ := unhid i7; have z1_ := unhid hz_; omega)))
            have hb_ := LVL_R (c := p1) (by (first | omega | (have z0_ := unhid i7; have z1_ := unhid hz_; omega)))
            rw [← hv_] at hb_
            refine go_retq PM143 (k := 0) (r := some (.inl ((10 * l9_1) + ((wr ((p1 - (am_shl 1 l9_1)) * 10)).tdiv (wr (am_shl 1 l9_1)))))) (w1 := (SH, dt)) rfl ?_
            exact ⟨rfl, ⟨_, rfl, ⟨by (first | omega | (have z0_ := unhid i7; have z1_ := unhid hz_; omega)), by (first | omega | (have z0_ := unhid i7; have z1_ := unhid hz_; omega))⟩, by first | exact hv_ | (unfold LVL; rw [if_pos (by (first | omega | (have z0_ := unhid i7; have z1_ := unhid hz_; omega)))])⟩⟩
          · skip
            refine go_toq PM143 (k := 2) (pc' := 9) (L' := [some (.inl p1), some (.inl (l9_1 + 1)), none]) (st' := []) (w' := (SH, dt)) rfl ?_
            exact GO.le (ih_loop8 (l9_1 + 1) (by first | exact bndp i6 (by decide) (by decide) | exact bnde i6 c9 (by decide) (by decide) | (first | omega | (have z0_ := unhid i7; have z1_ := unhid hz_; omega))) (by (first | omega | (have z0_ := unhid i7; have z1_ := unhid hz_; omega))) (by (first | omega | (have z0_ := unhid i7; have z1_ := unhid hz_; omega)))) ⟨.inl rfl, .inl rfl, .inl rfl, trivial⟩
    exact GO.le (loop8 _ 0 ⟨by decide, by decide⟩ (by omega) (Nat.lt_succ_self _)) ⟨.inl rfl, .inl rfl, .inl rfl, trivial⟩
  · skip
    refine go_retq PM143 (k := 1) (r := some (.inl (-50))) (w1 := (SH, dt)) rfl ?_
    exact ⟨rfl, ⟨_, rfl, ⟨by decide, by decide⟩, by first | exact hv_ | (unfold LVL; rw [if_pos (by omega)])⟩⟩
set_option maxRecDepth 20000 in
theorem sp_X6_level_f (L : Nat) (xs : Nat → Int32) (sio : Option Nat) (d : Nat) (dt : Nat → Nat → Int) (hI : InvC dt)  (p1 : Int) (h_p1 : 0 ≤ p1 ∧ p1 ≤ 1000)  : GO (am_XX L xs sio) (d) 243 0 [some (.inl p1), none] [] (SH, dt) (fun r w2 => w2 = (SH, dt) ∧ ((∃ v : Int, r = some (.inl v) ∧ ((-50) ≤ v ∧ v ≤ 110) ∧ (v = LVL p1)))) := by
  refine go_ifq PM243 (k := 1) (p1 := 7) (p2 := 4) (L' := [some (.inl p1), none]) (st' := []) (w' := (SH, dt)) rfl (z_ne (a := p1) (by first | exact bnd h_p1 (by decide) (by decide) | exact ⟨by omega, by omega⟩)) (fun c1 => ?_) (fun c1 => ?_)
  · skip
    have qc1 : 1 ≤ p1 := by omega
    replace c1 := hid c1
    refine go_toq PM243 (k := 2) (pc' := 9) (L' := [some (.inl p1), some (.inl 0)]) (st' := []) (w' := (SH, dt)) rfl ?_
    have loop7 : ∀ (k_ : Nat) (l9_1 : Int) (i5 : 0 ≤ l9_1 ∧ l9_1 ≤ 20) (i6 : l9_1 = 0 ∨ 0 < am_shr p1 l9_1), (21 - l9_1).toNat < k_ → GO (am_XX L xs sio) (d) 243 9 [some (.inl p1), some (.inl l9_1)] [] (SH, dt) (fun r w2 => w2 = (SH, dt) ∧ ((∃ v : Int, r = some (.inl v) ∧ ((-50) ≤ v ∧ v ≤ 110) ∧ (v = LVL p1)))) := by
      intro k_
      induction k_ with
      | zero => intro l9_1 i5 i6 hm; exact absurd hm (Nat.not_lt_zero _)
      | succ k_ ih_loop7 =>
        intro l9_1 i5 i6 hm
        replace i6 := hid i6
        have qL := i6
        have hz_ : l9_1 = 20 → am_shr p1 (l9_1 + 1) ≤ 0 := fun e_ => by rw [shr_d ⟨by (first | omega | (have z0_ := unhid c1; have z1_ := unhid i6; omega)), by (first | omega | (have z0_ := unhid c1; have z1_ := unhid i6; omega))⟩ ⟨by (first | omega | (have z0_ := unhid c1; have z1_ := unhid i6; omega)), by (first | omega | (have z0_ := unhid c1; have z1_ := unhid i6; omega))⟩, show (l9_1 + 1).toNat = 21 by first | with_reducible assumption | exact unhid (by with_reducible assumption) | (first | omega | (have z0_ := unhid c1; have z1_ := unhid i6; omega))]; show p1 / 2097152 ≤ 0; (first | omega | (have z0_ := unhid c1; have z1_ := unhid i6; omega))
        replace hz_ := hid hz_
        have r8 : 0 ≤ am_shr p1 (l9_1 + 1) ∧ am_shr p1 (l9_1 + 1) ≤ p1 := shr_N ⟨by (first | omega | (have z0_ := unhid c1; have z1_ := unhid i6; have z2_ := unhid hz_; omega)), by (first | omega | (have z0_ := unhid c1; have z1_ := unhid i6; have z2_ := unhid hz_; omega))⟩
        refine go_ifq PM243 (k := 5) (p1 := 23) (p2 := 17) (L' := [some (.inl p1), some (.inl l9_1)]) (st' := []) (w' := (SH, dt)) rfl (z_le (a := am_shr p1 (l9_1 + 1)) ⟨by (first | omega | (have z0_ := unhid c1; have z1_ := unhid i6; have z2_ := unhid hz_; omega)), by (first | omega | (have z0_ := unhid c1; have z1_ := unhid i6; have z2_ := unhid hz_; omega))⟩) (fun c9 => ?_) (fun c9 => ?_)
        · skip
          have r10 : 1 ≤ am_shl 1 l9_1 ∧ am_shl 1 l9_1 ≤ 1073741824 := shl1_R ⟨by (first | omega | (have z0_ := unhid c1; have z1_ := unhid i6; have z2_ := unhid hz_; omega)), by (first | omega | (have z0_ := unhid c1; have z1_ := unhid i6; have z2_ := unhid hz_; omega))⟩
          have r11 : -2147483648 ≤ am_shr ((p1 - (am_shl 1 l9_1)) * 10) l9_1 ∧ am_shr ((p1 - (am_shl 1 l9_1)) * 10) l9_1 ≤ 2147483647 := am_shr_R
          refine go_toq PM243 (k := 13) (pc' := 38) (L' := [some (.inl p1), some (.inl l9_1)]) (st' := [.inl ((10 * l9_1) + (am_shr ((p1 - (am_shl 1 l9_1)) * 10) l9_1))]) (w' := (SH, dt)) rfl ?_
          have hv_ : (10 * l9_1) + (am_shr ((p1 - (am_shl 1 l9_1)) * 10) l9_1) = LVL p1 := LVL_r ⟨by (first | omega | (have z0_ := unhid c1; have z1_ := unhid i6; have z2_ := unhid hz_; omega)), by (first | omega | (have z0_ := unhid c1; have z1_ := unhid i6; have z2_ := unhid hz_; omega))⟩ ⟨by (first | omega | (have z0_ := unhid c1; have z1_ := unhid i6; have z2_ := unhid hz_; omega)), by (first | omega | (have z0_ := unhid c1; have z1_ := unhid i6; have z2_ := unhid hz_; omega))⟩ qL (by (first | omega | (have z0_ := unhid c1; have z1_ := unhid i6; have z2_ := unhid hz_; omega)))
          have hb_ := LVL_R (c := p1) (by (first | omega | (have z0_ := unhid c1; have z1_ := unhid i6; have z2_ := unhid hz_; omega)))
          rw [← hv_] at hb_
          refine go_retq PM243 (k := 0) (r := some (.inl ((10 * l9_1) + (am_shr ((p1 - (am_shl 1 l9_1)) * 10) l9_1)))) (w1 := (SH, dt)) rfl ?_
          exact ⟨rfl, ⟨_, rfl, ⟨by (first | omega | (have z0_ := unhid c1; have z1_ := unhid i6; have z2_ := unhid hz_; omega)), by (first | omega | (have z0_ := unhid c1; have z1_ := unhid i6; have z2_ := unhid hz_; omega))⟩, by first | exact hv_ | (unfold LVL; rw [if_pos (by (first | omega | (have z0_ := unhid c1; have z1_ := unhid i6; have z2_ := unhid hz_; omega)))])⟩⟩
        · skip
          refine go_toq PM243 (k := 2) (pc' := 9) (L' := [some (.inl p1), some (.inl (l9_1 + 1))]) (st' := []) (w' := (SH, dt)) rfl ?_
          exact GO.le (ih_loop7 (l9_1 + 1) (by first | exact bndp i5 (by decide) (by decide) | (first | omega | (have z0_ := unhid c1; have z1_ := unhid i6; have z2_ := unhid hz_; omega))) (by (first | omega | (have z0_ := unhid c1; have z1_ := unhid i6; have z2_ := unhid hz_; omega))) (by (first | omega | (have z0_ := unhid c1; have z1_ := unhid i6; have z2_ := unhid hz_; omega)))) ⟨.inl rfl, .inl rfl, trivial⟩
    exact GO.le (loop7 _ 0 ⟨by decide, by decide⟩ (by (first | omega | (have z0_ := unhid c1; omega))) (Nat.lt_succ_self _)) ⟨.inl rfl, .inl rfl, trivial⟩
  · skip
    refine go_retq PM243 (k := 1) (r := some (.inl (-50))) (w1 := (SH, dt)) rfl ?_
    exact ⟨rfl, ⟨_, rfl, ⟨by decide, by decide⟩, by first | exact hv_ | (unfold LVL; rw [if_pos (by omega)])⟩⟩
