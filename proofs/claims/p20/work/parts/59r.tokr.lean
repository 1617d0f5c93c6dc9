theorem sp_J1_charAt_3b067_3f (L : Nat) (xs : Nat → Int32) (sio : Option Nat) (d : Nat) (dt : Nat → Nat → Int) (hI : InvC dt)  (p2 : Int) (h_p2 : 0 ≤ p2 ∧ p2 ≤ 3)  : GO (am_XX L xs sio) (d + 2) 256 0 [some (.inr (.inr (some 2003))), some (.inl p2)] [] (SH, dt) (fun r w2 => w2 = (SH, dt) ∧ ((∃ v : Int, r = some (.inl v) ∧ (0 ≤ v ∧ v ≤ 65535) ∧ (v = (am_Sby.getD 3 []).getD p2.toNat 0)))) := by
  refine go_toq PM256 (k := 3) (pc' := 3) (L' := [some (.inr (.inr (some 2003))), some (.inl p2)]) (st' := [.inl 4, .inl p2]) (w' := (SH, dt)) rfl ?_
  refine go_callq PM256 PM255 (Q' := _) rfl rfl rfl rfl (sp_J0_checkIndex_df160 L xs sio (d + 0) dt hI  p2 (by first | exact h_p2 | exact bnd h_p2 (by decide) (by decide) | exact ⟨by fail, by fail⟩) 4 ⟨by decide, by decide⟩ (by first | exact True.intro | with_reducible assumption | rfl | omega | trivial)) ?_
  rintro _ _ ⟨rfl, h1⟩
  refine ⟨rfl, ?_⟩
  rcases h1 with ⟨rfl, h1⟩
  refine go_toq PM256 (k := 2) (pc' := 8) (L' := [some (.inr (.inr (some 2003))), some (.inl p2)]) (st' := [.inl p2, .inr (.inr (some 2003))]) (w' := (SH, dt)) rfl ?_
  have r2 := sby_R 3 (p2).toNat
  refine go_smpq PM256 (L' := [some (.inr (.inr (some 2003))), some (.inl p2)]) (st' := [.inl ((am_Sby.getD 3 []).getD (p2).toNat 0)]) (w' := (SH, dt)) rfl rfl (s_bald (n := 4) (f := fun q => (am_Sby.getD 3 []).getD q 0) rfl (by first | exact bndx h_p2 (by decide) (by decide) | exact ⟨by fail, by fail⟩)) ?_
  have r3 : 0 ≤ am_and ((am_Sby.getD 3 []).getD (p2).toNat 0) 255 ∧ am_and ((am_Sby.getD 3 []).getD (p2).toNat 0) 255 ≤ 255 := and_R255
  have r4 := i2c_R (am_and ((am_Sby.getD 3 []).getD (p2).toNat 0) 255)
  refine go_toq PM256 (k := 3) (pc' := 14) (L' := [some (.inr (.inr (some 2003))), some (.inl p2)]) (st' := [.inl (am_i2c (am_and ((am_Sby.getD 3 []).getD (p2).toNat 0) 255))]) (w' := (SH, dt)) rfl ?_
  refine go_retvq PM256 (v := am_i2c (am_and ((am_Sby.getD 3 []).getD (p2).toNat 0) 255)) rfl (decide_eq_true (show 0 ≤ am_i2c (am_and ((am_Sby.getD 3 []).getD (p2).toNat 0) 255) ∧ am_i2c (am_and ((am_Sby.getD 3 []).getD (p2).toNat 0) 255) < 65536 by omega)) ?_
  exact ⟨rfl, ⟨_, rfl, ⟨by omega, by omega⟩, by exact ic_id ⟨by omega, by omega⟩⟩⟩
theorem sp_J0_charAt_5068e_3f (L : Nat) (xs : Nat → Int32) (sio : Option Nat) (d : Nat) (dt : Nat → Nat → Int) (hI : InvC dt)  (p1 : Int) (h_p1 : 0 ≤ p1 ∧ p1 ≤ 3)  : GO (am_XX L xs sio) (d + 3) 250 0 [some (.inr (.inr (some 1003))), some (.inl p1)] [] (SH, dt) (fun r w2 => w2 = (SH, dt) ∧ ((∃ v : Int, r = some (.inl v) ∧ (0 ≤ v ∧ v ≤ 65535) ∧ (v = (am_Sby.getD 3 []).getD p1.toNat 0)))) := by
  refine go_toq PM250 (k := 1) (pc' := 1) (L' := [some (.inr (.inr (some 1003))), some (.inl p1)]) (st' := [.inr (.inr (some 1003))]) (w' := (SH, dt)) rfl ?_
  refine go_callq PM250 PM254 (Q' := _) rfl rfl rfl rfl (sp_J0_isLatin1_aae02_1003 L xs sio (d + 2) dt hI   ) ?_
  rintro _ _ ⟨rfl, h1⟩
  refine ⟨rfl, ?_⟩
  rcases h1 with ⟨rfl, h1⟩
  refine go_toq PM250 (k := 4) (pc' := 12) (L' := [some (.inr (.inr (some 1003))), some (.inl p1)]) (st' := [.inl p1, .inr (.inr (some 2003))]) (w' := (SH, dt)) rfl ?_
  refine go_callq PM250 PM256 (Q' := _) rfl rfl rfl rfl (sp_J1_charAt_3b067_3f L xs sio (d + 0) dt hI  p1 (by first | exact h_p1 | exact bnd h_p1 (by decide) (by decide) | exact ⟨by fail, by fail⟩) ) ?_
  rintro _ _ ⟨rfl, h2⟩
  refine ⟨rfl, ?_⟩
  rcases h2 with ⟨v_h2, rfl, h2r, h2⟩
  refine go_retvq PM250 (v := v_h2) rfl (decide_eq_true (show 0 ≤ v_h2 ∧ v_h2 < 65536 by omega)) ?_
  exact ⟨rfl, ⟨_, rfl, ⟨by omega, by omega⟩, by first | exact True.intro | with_reducible assumption | rfl | fail | trivial⟩⟩
set_option maxRecDepth 20000 in
theorem sp_X6_is_3f (L : Nat) (xs : Nat → Int32) (sio : Option Nat) (d : Nat) (dt : Nat → Nat → Int) (hI : InvC dt)   (h_p0 : dt 79 13 ≤ 500) (h_p1 : dt 79 15 ≤ dt 79 13) (h_p2 : dt 79 13 ≤ dt 79 12) : GO (am_XX L xs sio) (d + 4) 156 0 [some (.inr (.inr (some 79))), some (.inr (.inr (some 1003))), none, none] [] (SH, dt) (fun r w2 => w2 = (SH, dt) ∧ ((∃ v : Int, r = some (.inl v) ∧ (0 ≤ v ∧ v ≤ 1) ∧ (v = wm (am_Sby.getD 3 []) (mB (dt 85) (dt 79 12)) (dt 79 15).toNat (dt 79 13).toNat)))) := by
  have r1 : 0 ≤ dt 79 13 ∧ dt 79 13 ≤ 501 := InvC_get hI 79 13 rfl rfl
  have r2 : 0 ≤ dt 79 15 ∧ dt 79 15 ≤ 500 := InvC_get hI 79 15 rfl rfl
  have r3 : 0 ≤ dt 79 12 ∧ dt 79 12 ≤ 500 := InvC_get hI 79 12 rfl rfl
  have hlen : (((am_Sby.getD 3 []).length : Nat) : Int) = 4 := rfl
  refine go_toq PM156 (k := 6) (pc' := 10) (L' := [some (.inr (.inr (some 79))), some (.inr (.inr (some 1003))), none, none]) (st' := [.inr (.inr (some 1003)), .inl ((dt 79 13) - (dt 79 15))]) (w' := (SH, dt)) rfl ?_
  refine go_callq PM156 PM249 (Q' := _) rfl rfl rfl rfl (sp_J0_length_8abf5_1003 L xs sio (d + 2) dt hI   ) ?_
  rintro _ _ ⟨rfl, h4⟩
  refine ⟨rfl, ?_⟩
  rcases h4 with ⟨rfl, h4⟩
  refine go_ifq PM156 (k := 0) (p1 := 20) (p2 := 16) (L' := [some (.inr (.inr (some 79))), some (.inr (.inr (some 1003))), none, none]) (st' := []) (w' := (SH, dt)) rfl (c_ne (a := (dt 79 13) - (dt 79 15)) (b := 4) ⟨by omega, by omega⟩ ⟨by decide, by decide⟩) (fun c5 => ?_) (fun c5 => ?_)
  · skip
    replace c5 := hid c5
    refine go_toq PM156 (k := 4) (pc' := 24) (L' := [some (.inr (.inr (some 79))), some (.inr (.inr (some 1003))), some (.inl 0), some (.inl 0)]) (st' := []) (w' := (SH, dt)) rfl ?_
    have loop18 : ∀ (k_ : Nat) (l24_2 : Int) (l24_3 : Int) (i13 : 0 ≤ l24_2 ∧ l24_2 ≤ 1) (i14 : 0 ≤ l24_3 ∧ l24_3 ≤ 4) (i15 : l24_2 = 1 → WQ (am_Sby.getD 3 []) (dt 79 13 - dt 79 15) (mB (dt 85) (dt 79 12)) (dt 79 15) l24_3) (i16 : l24_2 = 0 → wm (am_Sby.getD 3 []) (mB (dt 85) (dt 79 12)) (dt 79 15).toNat (dt 79 13).toNat = 0) (i17 : l24_2 = 0 ∨ dt 79 13 - dt 79 15 = 4), (5 - l24_3).toNat < k_ → GO (am_XX L xs sio) (d + 4) 156 24 [some (.inr (.inr (some 79))), some (.inr (.inr (some 1003))), some (.inl l24_2), some (.inl l24_3)] [] (SH, dt) (fun r w2 => w2 = (SH, dt) ∧ ((∃ v : Int, r = some (.inl v) ∧ (0 ≤ v ∧ v ≤ 1) ∧ (v = wm (am_Sby.getD 3 []) (mB (dt 85) (dt 79 12)) (dt 79 15).toNat (dt 79 13).toNat)))) := by
      intro k_
      induction k_ with
      | zero => intro l24_2 l24_3 i13 i14 i15 i16 i17 hm; exact absurd hm (Nat.not_lt_zero _)
      | succ k_ ih_loop18 =>
        intro l24_2 l24_3 i13 i14 i15 i16 i17 hm
        replace i15 := hid i15
        replace i16 := hid i16
        replace i17 := hid i17
        have q1 := i15
        have q2 := i16
        refine go_toq PM156 (k := 2) (pc' := 26) (L' := [some (.inr (.inr (some 79))), some (.inr (.inr (some 1003))), some (.inl l24_2), some (.inl l24_3)]) (st' := [.inr (.inr (some 1003)), .inl l24_3]) (w' := (SH, dt)) rfl ?_
        refine go_callq PM156 PM249 (Q' := _) rfl rfl rfl rfl (sp_J0_length_8abf5_1003 L xs sio (d + 2) dt hI   ) ?_
        rintro _ _ ⟨rfl, h19⟩
        refine ⟨rfl, ?_⟩
        rcases h19 with ⟨rfl, h19⟩
        refine go_ifq PM156 (k := 0) (p1 := 67) (p2 := 32) (L' := [some (.inr (.inr (some 79))), some (.inr (.inr (some 1003))), some (.inl l24_2), some (.inl l24_3)]) (st' := []) (w' := (SH, dt)) rfl (c_ge (a := l24_3) (b := 4) (by first | exact bnd i14 (by decide) (by decide) | exact ⟨by fail, by fail⟩) ⟨by decide, by decide⟩) (fun c20 => ?_) (fun c20 => ?_)
        · skip
          refine go_toq PM156 (k := 1) (pc' := 68) (L' := [some (.inr (.inr (some 79))), some (.inr (.inr (some 1003))), some (.inl l24_2), some (.inl l24_3)]) (st' := [.inl l24_2]) (w' := (SH, dt)) rfl ?_
          refine go_retvq PM156 (v := l24_2) rfl (decide_eq_true (show l24_2 = 0 ∨ l24_2 = 1 by omega)) ?_
          exact ⟨rfl, ⟨_, rfl, ⟨by omega, by omega⟩, by rcases (show l24_2 = 0 ∨ l24_2 = 1 by omega) with z | z <;> first | (rw [q2 z]; exact z) | (rw [WM_1 (q1 z) ⟨by omega, by omega⟩ (by omega)]; exact z)⟩⟩
        · skip
          refine go_ifq PM156 (k := 1) (p1 := 67) (p2 := 36) (L' := [some (.inr (.inr (some 79))), some (.inr (.inr (some 1003))), some (.inl l24_2), some (.inl l24_3)]) (st' := []) (w' := (SH, dt)) rfl (z_eq (a := l24_2) (by first | exact bnd i13 (by decide) (by decide) | exact ⟨by fail, by fail⟩)) (fun c21 => ?_) (fun c21 => ?_)
          · skip
            refine go_toq PM156 (k := 1) (pc' := 68) (L' := [some (.inr (.inr (some 79))), some (.inr (.inr (some 1003))), some (.inl l24_2), some (.inl l24_3)]) (st' := [.inl l24_2]) (w' := (SH, dt)) rfl ?_
            refine go_retvq PM156 (v := l24_2) rfl (decide_eq_true (show l24_2 = 0 ∨ l24_2 = 1 by omega)) ?_
            exact ⟨rfl, ⟨_, rfl, ⟨by omega, by omega⟩, by rcases (show l24_2 = 0 ∨ l24_2 = 1 by omega) with z | z <;> first | (rw [q2 z]; exact z) | (rw [WM_1 (q1 z) ⟨by omega, by omega⟩ (by omega)]; exact z)⟩⟩
          · skip
            replace c21 := hid c21
            refine go_toq PM156 (k := 6) (pc' := 46) (L' := [some (.inr (.inr (some 79))), some (.inr (.inr (some 1003))), some (.inl l24_2), some (.inl l24_3)]) (st' := [.inl ((dt 79 15) + l24_3), .inr (.inr (some 85))]) (w' := (SH, dt)) rfl ?_
            have r22 : 0 ≤ dt 85 (((dt 79 15) + l24_3).toNat) ∧ dt 85 (((dt 79 15) + l24_3).toNat) ≤ 255 := InvC_get hI 85 (((dt 79 15) + l24_3).toNat) rfl rfl
            have u1_ := hid (And.intro (unhid c5) (And.intro (unhid i16) (And.intro (unhid i17) (unhid c21))))
            refine go_smpq PM156 (L' := [some (.inr (.inr (some 79))), some (.inr (.inr (some 1003))), some (.inl l24_2), some (.inl l24_3)]) (st' := [.inl (dt 85 (((dt 79 15) + l24_3).toNat))]) (w' := (SH, dt)) rfl rfl (s_iald (n := 500) (f := dt 85) rfl ⟨by omega, by (have z_ := unhid u1_; omega)⟩) ?_
            refine go_toq PM156 (k := 2) (pc' := 49) (L' := [some (.inr (.inr (some 79))), some (.inr (.inr (some 1003))), some (.inl l24_2), some (.inl l24_3)]) (st' := [.inl l24_3, .inr (.inr (some 1003)), .inl (dt 85 (((dt 79 15) + l24_3).toNat))]) (w' := (SH, dt)) rfl ?_
            refine go_callq PM156 PM250 (Q' := _) rfl rfl rfl rfl (sp_J0_charAt_5068e_3f L xs sio (d + 0) dt hI  l24_3 (by first | exact bnd i14 (by decide) (by decide) | exact bndd i14 c20 (by decide) (by decide) | exact ⟨by fail, by fail⟩) ) ?_
            rintro _ _ ⟨rfl, h23⟩
            refine ⟨rfl, ?_⟩
            rcases h23 with ⟨v_h23, rfl, h23r, h23⟩
            refine go_ifq PM156 (k := 0) (p1 := 59) (p2 := 55) (L' := [some (.inr (.inr (some 79))), some (.inr (.inr (some 1003))), some (.inl l24_2), some (.inl l24_3)]) (st' := []) (w' := (SH, dt)) rfl (c_ne (a := dt 85 (((dt 79 15) + l24_3).toNat)) (b := v_h23) (by first | exact bnd r22 (by decide) (by decide) | exact ⟨by fail, by fail⟩) (by first | exact bnd h23r (by decide) (by decide) | exact ⟨by fail, by fail⟩)) (fun c24 => ?_) (fun c24 => ?_)
            · skip
              replace c24 := hid c24
              refine go_toq PM156 (k := 4) (pc' := 24) (L' := [some (.inr (.inr (some 79))), some (.inr (.inr (some 1003))), some (.inl 0), some (.inl (l24_3 + 1))]) (st' := []) (w' := (SH, dt)) rfl ?_
              have u2_ := hid (And.intro (unhid c5) (And.intro (unhid i16) (And.intro (unhid i17) (And.intro (unhid c21) (unhid c24)))))
              exact GO.le (ih_loop18 0 (l24_3 + 1) (by first | omega | (intro z; first | fail | exact WQ_0 (by fail) (by fail) | exact WM_a ⟨by fail, by fail⟩ (by fail) | exact WQ_s (q1 (by fail)) ⟨by fail, by fail⟩ (mB_in (by fail) (by fail)).symm h23 (by fail) | exact WM_b ⟨by fail, by fail⟩ (by fail) (mB_in (by fail) (by fail)).symm h23 (by fail))) (by first | omega | (intro z; first | fail | exact WQ_0 (by fail) (by fail) | exact WM_a ⟨by fail, by fail⟩ (by fail) | exact WQ_s (q1 (by fail)) ⟨by fail, by fail⟩ (mB_in (by fail) (by fail)).symm h23 (by fail) | exact WM_b ⟨by fail, by fail⟩ (by fail) (mB_in (by fail) (by fail)).symm h23 (by fail))) (by first | omega | (intro z; first | fail | exact WQ_0 (by fail) (by fail) | exact WM_a ⟨by fail, by fail⟩ (by fail) | exact WQ_s (q1 (by fail)) ⟨by fail, by fail⟩ (mB_in (by fail) (by fail)).symm h23 (by fail) | exact WM_b ⟨by fail, by fail⟩ (by fail) (mB_in (by fail) (by fail)).symm h23 (by fail))) (by first | (have z_ := unhid u2_; omega) | (intro z; first | fail | exact WQ_0 (by fail) (by fail) | exact WM_a ⟨by fail, by fail⟩ (by fail) | exact WQ_s (q1 (by fail)) ⟨by fail, by fail⟩ (mB_in (by fail) (by fail)).symm h23 (by fail) | exact WM_b ⟨by fail, by fail⟩ (by fail) (mB_in (by fail) (by fail)).symm h23 (by fail))) (by first | omega | (intro z; first | fail | exact WQ_0 (by fail) (by fail) | exact WM_a ⟨by fail, by fail⟩ (by fail) | exact WQ_s (q1 (by fail)) ⟨by fail, by fail⟩ (mB_in (by fail) (by fail)).symm h23 (by fail) | exact WM_b ⟨by fail, by fail⟩ (by fail) (mB_in (by fail) (by fail)).symm h23 (by fail))) (by omega)) ⟨.inl rfl, .inl rfl, .inl rfl, .inl rfl, trivial⟩
            · skip
              refine go_toq PM156 (k := 5) (pc' := 24) (L' := [some (.inr (.inr (some 79))), some (.inr (.inr (some 1003))), some (.inl 1), some (.inl (l24_3 + 1))]) (st' := []) (w' := (SH, dt)) rfl ?_
              exact GO.le (ih_loop18 1 (l24_3 + 1) (by first | omega | (intro z; first | fail | exact WQ_0 (by fail) (by fail) | exact WM_a ⟨by fail, by fail⟩ (by fail) | exact WQ_s (q1 (by fail)) ⟨by fail, by fail⟩ (mB_in (by fail) (by fail)).symm h23 (by fail) | exact WM_b ⟨by fail, by fail⟩ (by fail) (mB_in (by fail) (by fail)).symm h23 (by fail))) (by first | omega | (intro z; first | fail | exact WQ_0 (by fail) (by fail) | exact WM_a ⟨by fail, by fail⟩ (by fail) | exact WQ_s (q1 (by fail)) ⟨by fail, by fail⟩ (mB_in (by fail) (by fail)).symm h23 (by fail) | exact WM_b ⟨by fail, by fail⟩ (by fail) (mB_in (by fail) (by fail)).symm h23 (by fail))) (by first | (have z_ := unhid u1_; omega) | (intro z; first | fail | exact WQ_0 (by fail) (by fail) | exact WM_a ⟨by fail, by fail⟩ (by fail) | exact WQ_s (q1 (by fail)) ⟨by fail, by fail⟩ (mB_in (by fail) (by fail)).symm h23 (by fail) | exact WM_b ⟨by fail, by fail⟩ (by fail) (mB_in (by fail) (by fail)).symm h23 (by fail))) (by first | omega | (intro z; first | fail | exact WQ_0 (by fail) (by fail) | exact WM_a ⟨by fail, by fail⟩ (by fail) | exact WQ_s (q1 (by fail)) ⟨by fail, by fail⟩ (mB_in (by fail) (by fail)).symm h23 (by fail) | exact WM_b ⟨by fail, by fail⟩ (by fail) (mB_in (by fail) (by fail)).symm h23 (by fail))) (by first | (have z_ := unhid u1_; omega) | (intro z; first | fail | exact WQ_0 (by fail) (by fail) | exact WM_a ⟨by fail, by fail⟩ (by fail) | exact WQ_s (q1 (by fail)) ⟨by fail, by fail⟩ (mB_in (by fail) (by fail)).symm h23 (by fail) | exact WM_b ⟨by fail, by fail⟩ (by fail) (mB_in (by fail) (by fail)).symm h23 (by fail))) (by omega)) ⟨.inl rfl, .inl rfl, .inl rfl, .inl rfl, trivial⟩
    exact GO.le (loop18 _ 0 0 (by first | omega | (intro z; first | fail | exact WQ_0 (by fail) (by fail) | exact WM_a ⟨by fail, by fail⟩ (by fail) | exact WQ_s (q1 (by fail)) ⟨by fail, by fail⟩ (mB_in (by fail) (by fail)).symm hI (by fail) | exact WM_b ⟨by fail, by fail⟩ (by fail) (mB_in (by fail) (by fail)).symm hI (by fail))) (by first | omega | (intro z; first | fail | exact WQ_0 (by fail) (by fail) | exact WM_a ⟨by fail, by fail⟩ (by fail) | exact WQ_s (q1 (by fail)) ⟨by fail, by fail⟩ (mB_in (by fail) (by fail)).symm hI (by fail) | exact WM_b ⟨by fail, by fail⟩ (by fail) (mB_in (by fail) (by fail)).symm hI (by fail))) (by first | omega | (intro z; first | fail | exact WQ_0 (by fail) (by fail) | exact WM_a ⟨by fail, by fail⟩ (by fail) | exact WQ_s (q1 (by fail)) ⟨by fail, by fail⟩ (mB_in (by fail) (by fail)).symm hI (by fail) | exact WM_b ⟨by fail, by fail⟩ (by fail) (mB_in (by fail) (by fail)).symm hI (by fail))) (by first | fail | (intro z; first | fail | exact WQ_0 (by fail) (by fail) | exact WM_a ⟨by omega, by omega⟩ (by (have z0_ := unhid c5; omega)) | exact WQ_s (q1 (by fail)) ⟨by fail, by fail⟩ (mB_in (by fail) (by fail)).symm hI (by fail) | exact WM_b ⟨by fail, by fail⟩ (by fail) (mB_in (by fail) (by fail)).symm hI (by fail))) (by first | omega | (intro z; first | fail | exact WQ_0 (by fail) (by fail) | exact WM_a ⟨by fail, by fail⟩ (by fail) | exact WQ_s (q1 (by fail)) ⟨by fail, by fail⟩ (mB_in (by fail) (by fail)).symm hI (by fail) | exact WM_b ⟨by fail, by fail⟩ (by fail) (mB_in (by fail) (by fail)).symm hI (by fail))) (Nat.lt_succ_self _)) ⟨.inl rfl, .inl rfl, .inl rfl, .inl rfl, trivial⟩
  · skip
    refine go_toq PM156 (k := 5) (pc' := 24) (L' := [some (.inr (.inr (some 79))), some (.inr (.inr (some 1003))), some (.inl 1), some (.inl 0)]) (st' := []) (w' := (SH, dt)) rfl ?_
    have loop37 : ∀ (k_ : Nat) (l24_2 : Int) (l24_3 : Int) (i32 : 0 ≤ l24_2 ∧ l24_2 ≤ 1) (i33 : 0 ≤ l24_3 ∧ l24_3 ≤ 4) (i34 : l24_2 = 1 → WQ (am_Sby.getD 3 []) (dt 79 13 - dt 79 15) (mB (dt 85) (dt 79 12)) (dt 79 15) l24_3) (i35 : l24_2 = 0 → wm (am_Sby.getD 3 []) (mB (dt 85) (dt 79 12)) (dt 79 15).toNat (dt 79 13).toNat = 0) (i36 : l24_2 = 0 ∨ dt 79 13 - dt 79 15 = 4), (5 - l24_3).toNat < k_ → GO (am_XX L xs sio) (d + 4) 156 24 [some (.inr (.inr (some 79))), some (.inr (.inr (some 1003))), some (.inl l24_2), some (.inl l24_3)] [] (SH, dt) (fun r w2 => w2 = (SH, dt) ∧ ((∃ v : Int, r = some (.inl v) ∧ (0 ≤ v ∧ v ≤ 1) ∧ (v = wm (am_Sby.getD 3 []) (mB (dt 85) (dt 79 12)) (dt 79 15).toNat (dt 79 13).toNat)))) := by
      intro k_
      induction k_ with
      | zero => intro l24_2 l24_3 i32 i33 i34 i35 i36 hm; exact absurd hm (Nat.not_lt_zero _)
      | succ k_ ih_loop37 =>
        intro l24_2 l24_3 i32 i33 i34 i35 i36 hm
        replace i34 := hid i34
        replace i35 := hid i35
        replace i36 := hid i36
        have q1 := i34
        have q2 := i35
        refine go_toq PM156 (k := 2) (pc' := 26) (L' := [some (.inr (.inr (some 79))), some (.inr (.inr (some 1003))), some (.inl l24_2), some (.inl l24_3)]) (st' := [.inr (.inr (some 1003)), .inl l24_3]) (w' := (SH, dt)) rfl ?_
        refine go_callq PM156 PM249 (Q' := _) rfl rfl rfl rfl (sp_J0_length_8abf5_1003 L xs sio (d + 2) dt hI   ) ?_
        rintro _ _ ⟨rfl, h38⟩
        refine ⟨rfl, ?_⟩
        rcases h38 with ⟨rfl, h38⟩
        refine go_ifq PM156 (k := 0) (p1 := 67) (p2 := 32) (L' := [some (.inr (.inr (some 79))), some (.inr (.inr (some 1003))), some (.inl l24_2), some (.inl l24_3)]) (st' := []) (w' := (SH, dt)) rfl (c_ge (a := l24_3) (b := 4) (by first | exact bnd i33 (by decide) (by decide) | exact ⟨by fail, by fail⟩) ⟨by decide, by decide⟩) (fun c39 => ?_) (fun c39 => ?_)
        · skip
          refine go_toq PM156 (k := 1) (pc' := 68) (L' := [some (.inr (.inr (some 79))), some (.inr (.inr (some 1003))), some (.inl l24_2), some (.inl l24_3)]) (st' := [.inl l24_2]) (w' := (SH, dt)) rfl ?_
          refine go_retvq PM156 (v := l24_2) rfl (decide_eq_true (show l24_2 = 0 ∨ l24_2 = 1 by omega)) ?_
          exact ⟨rfl, ⟨_, rfl, ⟨by omega, by omega⟩, by rcases (show l24_2 = 0 ∨ l24_2 = 1 by omega) with z | z <;> first | (rw [q2 z]; exact z) | (rw [WM_1 (q1 z) ⟨by omega, by omega⟩ (by omega)]; exact z)⟩⟩
        · skip
          refine go_ifq PM156 (k := 1) (p1 := 67) (p2 := 36) (L' := [some (.inr (.inr (some 79))), some (.inr (.inr (some 1003))), some (.inl l24_2), some (.inl l24_3)]) (st' := []) (w' := (SH, dt)) rfl (z_eq (a := l24_2) (by first | exact bnd i32 (by decide) (by decide) | exact ⟨by fail, by fail⟩)) (fun c40 => ?_) (fun c40 => ?_)
          · skip
            refine go_toq PM156 (k := 1) (pc' := 68) (L' := [some (.inr (.inr (some 79))), some (.inr (.inr (some 1003))), some (.inl l24_2), some (.inl l24_3)]) (st' := [.inl l24_2]) (w' := (SH, dt)) rfl ?_
            refine go_retvq PM156 (v := l24_2) rfl (decide_eq_true (show l24_2 = 0 ∨ l24_2 = 1 by omega)) ?_
            exact ⟨rfl, ⟨_, rfl, ⟨by omega, by omega⟩, by rcases (show l24_2 = 0 ∨ l24_2 = 1 by omega) with z | z <;> first | (rw [q2 z]; exact z) | (rw [WM_1 (q1 z) ⟨by omega, by omega⟩ (by omega)]; exact z)⟩⟩
          · skip
            replace c40 := hid c40
            refine go_toq PM156 (k := 6) (pc' := 46) (L' := [some (.inr (.inr (some 79))), some (.inr (.inr (some 1003))), some (.inl l24_2), some (.inl l24_3)]) (st' := [.inl ((dt 79 15) + l24_3), .inr (.inr (some 85))]) (w' := (SH, dt)) rfl ?_
            have r41 : 0 ≤ dt 85 (((dt 79 15) + l24_3).toNat) ∧ dt 85 (((dt 79 15) + l24_3).toNat) ≤ 255 := InvC_get hI 85 (((dt 79 15) + l24_3).toNat) rfl rfl
            refine go_smpq PM156 (L' := [some (.inr (.inr (some 79))), some (.inr (.inr (some 1003))), some (.inl l24_2), some (.inl l24_3)]) (st' := [.inl (dt 85 (((dt 79 15) + l24_3).toNat))]) (w' := (SH, dt)) rfl rfl (s_iald (n := 500) (f := dt 85) rfl ⟨by omega, by omega⟩) ?_
            refine go_toq PM156 (k := 2) (pc' := 49) (L' := [some (.inr (.inr (some 79))), some (.inr (.inr (some 1003))), some (.inl l24_2), some (.inl l24_3)]) (st' := [.inl l24_3, .inr (.inr (some 1003)), .inl (dt 85 (((dt 79 15) + l24_3).toNat))]) (w' := (SH, dt)) rfl ?_
            refine go_callq PM156 PM250 (Q' := _) rfl rfl rfl rfl (sp_J0_charAt_5068e_3f L xs sio (d + 0) dt hI  l24_3 (by first | exact bnd i33 (by decide) (by decide) | exact bndd i33 c39 (by decide) (by decide) | exact ⟨by fail, by fail⟩) ) ?_
            rintro _ _ ⟨rfl, h42⟩
            refine ⟨rfl, ?_⟩
            rcases h42 with ⟨v_h42, rfl, h42r, h42⟩
            refine go_ifq PM156 (k := 0) (p1 := 59) (p2 := 55) (L' := [some (.inr (.inr (some 79))), some (.inr (.inr (some 1003))), some (.inl l24_2), some (.inl l24_3)]) (st' := []) (w' := (SH, dt)) rfl (c_ne (a := dt 85 (((dt 79 15) + l24_3).toNat)) (b := v_h42) (by first | exact bnd r41 (by decide) (by decide) | exact ⟨by fail, by fail⟩) (by first | exact bnd h42r (by decide) (by decide) | exact ⟨by fail, by fail⟩)) (fun c43 => ?_) (fun c43 => ?_)
            · skip
              replace c43 := hid c43
              refine go_toq PM156 (k := 4) (pc' := 24) (L' := [some (.inr (.inr (some 79))), some (.inr (.inr (some 1003))), some (.inl 0), some (.inl (l24_3 + 1))]) (st' := []) (w' := (SH, dt)) rfl ?_
              have u3_ := hid (And.intro (unhid i35) (And.intro (unhid i36) (And.intro (unhid c40) (unhid c43))))
              exact GO.le (ih_loop37 0 (l24_3 + 1) (by first | omega | (intro z; first | fail | exact WQ_0 (by fail) (by fail) | exact WM_a ⟨by fail, by fail⟩ (by fail) | exact WQ_s (q1 (by fail)) ⟨by fail, by fail⟩ (mB_in (by fail) (by fail)).symm h42 (by fail) | exact WM_b ⟨by fail, by fail⟩ (by fail) (mB_in (by fail) (by fail)).symm h42 (by fail))) (by first | omega | (intro z; first | fail | exact WQ_0 (by fail) (by fail) | exact WM_a ⟨by fail, by fail⟩ (by fail) | exact WQ_s (q1 (by fail)) ⟨by fail, by fail⟩ (mB_in (by fail) (by fail)).symm h42 (by fail) | exact WM_b ⟨by fail, by fail⟩ (by fail) (mB_in (by fail) (by fail)).symm h42 (by fail))) (by first | omega | (intro z; first | fail | exact WQ_0 (by fail) (by fail) | exact WM_a ⟨by fail, by fail⟩ (by fail) | exact WQ_s (q1 (by fail)) ⟨by fail, by fail⟩ (mB_in (by fail) (by fail)).symm h42 (by fail) | exact WM_b ⟨by fail, by fail⟩ (by fail) (mB_in (by fail) (by fail)).symm h42 (by fail))) (by first | fail | (intro z; first | fail | exact WQ_0 (by fail) (by fail) | exact WM_a ⟨by omega, by omega⟩ (by fail) | exact WQ_s (q1 (by (have z_ := unhid u3_; omega))) ⟨by omega, by omega⟩ (mB_in (by omega) (by omega)).symm h42 (by fail) | exact WM_b ⟨by omega, by omega⟩ (by omega) (mB_in (by omega) (by omega)).symm h42 (by (have z_ := unhid u3_; omega)))) (by first | omega | (intro z; first | fail | exact WQ_0 (by fail) (by fail) | exact WM_a ⟨by fail, by fail⟩ (by fail) | exact WQ_s (q1 (by fail)) ⟨by fail, by fail⟩ (mB_in (by fail) (by fail)).symm h42 (by fail) | exact WM_b ⟨by fail, by fail⟩ (by fail) (mB_in (by fail) (by fail)).symm h42 (by fail))) (by omega)) ⟨.inl rfl, .inl rfl, .inl rfl, .inl rfl, trivial⟩
            · skip
              refine go_toq PM156 (k := 5) (pc' := 24) (L' := [some (.inr (.inr (some 79))), some (.inr (.inr (some 1003))), some (.inl 1), some (.inl (l24_3 + 1))]) (st' := []) (w' := (SH, dt)) rfl ?_
              exact GO.le (ih_loop37 1 (l24_3 + 1) (by first | omega | (intro z; first | fail | exact WQ_0 (by fail) (by fail) | exact WM_a ⟨by fail, by fail⟩ (by fail) | exact WQ_s (q1 (by fail)) ⟨by fail, by fail⟩ (mB_in (by fail) (by fail)).symm h42 (by fail) | exact WM_b ⟨by fail, by fail⟩ (by fail) (mB_in (by fail) (by fail)).symm h42 (by fail))) (by first | omega | (intro z; first | fail | exact WQ_0 (by fail) (by fail) | exact WM_a ⟨by fail, by fail⟩ (by fail) | exact WQ_s (q1 (by fail)) ⟨by fail, by fail⟩ (mB_in (by fail) (by fail)).symm h42 (by fail) | exact WM_b ⟨by fail, by fail⟩ (by fail) (mB_in (by fail) (by fail)).symm h42 (by fail))) (by first | fail | (intro z; first | fail | exact WQ_0 (by omega) (by fail) | exact WM_a ⟨by fail, by fail⟩ (by fail) | exact WQ_s (q1 (by (have z0_ := unhid i35; have z1_ := unhid i36; have z2_ := unhid c40; omega))) ⟨by omega, by omega⟩ (mB_in (by omega) (by omega)).symm h42 (by omega) | exact WM_b ⟨by fail, by fail⟩ (by fail) (mB_in (by fail) (by fail)).symm h42 (by fail))) (by first | omega | (intro z; first | fail | exact WQ_0 (by fail) (by fail) | exact WM_a ⟨by fail, by fail⟩ (by fail) | exact WQ_s (q1 (by fail)) ⟨by fail, by fail⟩ (mB_in (by fail) (by fail)).symm h42 (by fail) | exact WM_b ⟨by fail, by fail⟩ (by fail) (mB_in (by fail) (by fail)).symm h42 (by fail))) (by first | omega | (intro z; first | fail | exact WQ_0 (by fail) (by fail) | exact WM_a ⟨by fail, by fail⟩ (by fail) | exact WQ_s (q1 (by fail)) ⟨by fail, by fail⟩ (mB_in (by fail) (by fail)).symm h42 (by fail) | exact WM_b ⟨by fail, by fail⟩ (by fail) (mB_in (by fail) (by fail)).symm h42 (by fail))) (by omega)) ⟨.inl rfl, .inl rfl, .inl rfl, .inl rfl, trivial⟩
    exact GO.le (loop37 _ 1 0 (by first | omega | (intro z; first | fail | exact WQ_0 (by fail) (by fail) | exact WM_a ⟨by fail, by fail⟩ (by fail) | exact WQ_s (q1 (by fail)) ⟨by fail, by fail⟩ (mB_in (by fail) (by fail)).symm hI (by fail) | exact WM_b ⟨by fail, by fail⟩ (by fail) (mB_in (by fail) (by fail)).symm hI (by fail))) (by first | omega | (intro z; first | fail | exact WQ_0 (by fail) (by fail) | exact WM_a ⟨by fail, by fail⟩ (by fail) | exact WQ_s (q1 (by fail)) ⟨by fail, by fail⟩ (mB_in (by fail) (by fail)).symm hI (by fail) | exact WM_b ⟨by fail, by fail⟩ (by fail) (mB_in (by fail) (by fail)).symm hI (by fail))) (by first | fail | (intro z; first | fail | exact WQ_0 (by omega) (by omega) | exact WM_a ⟨by fail, by fail⟩ (by fail) | exact WQ_s (q1 (by fail)) ⟨by fail, by fail⟩ (mB_in (by fail) (by fail)).symm hI (by fail) | exact WM_b ⟨by fail, by fail⟩ (by fail) (mB_in (by fail) (by fail)).symm hI (by fail))) (by first | omega | (intro z; first | fail | exact WQ_0 (by fail) (by fail) | exact WM_a ⟨by fail, by fail⟩ (by fail) | exact WQ_s (q1 (by fail)) ⟨by fail, by fail⟩ (mB_in (by fail) (by fail)).symm hI (by fail) | exact WM_b ⟨by fail, by fail⟩ (by fail) (mB_in (by fail) (by fail)).symm hI (by fail))) (by first | omega | (intro z; first | fail | exact WQ_0 (by fail) (by fail) | exact WM_a ⟨by fail, by fail⟩ (by fail) | exact WQ_s (q1 (by fail)) ⟨by fail, by fail⟩ (mB_in (by fail) (by fail)).symm hI (by fail) | exact WM_b ⟨by fail, by fail⟩ (by fail) (mB_in (by fail) (by fail)).symm hI (by fail))) (Nat.lt_succ_self _)) ⟨.inl rfl, .inl rfl, .inl rfl, .inl rfl, trivial⟩
theorem sp_J1_charAt_3b067_4f (L : Nat) (xs : Nat → Int32) (sio : Option Nat) (d : Nat) (dt : Nat → Nat → Int) (hI : InvC dt)  (p2 : Int) (h_p2 : 0 ≤ p2 ∧ p2 ≤ 4)  : GO (am_XX L xs sio) (d + 2) 256 0 [some (.inr (.inr (some 2004))), some (.inl p2)] [] (SH, dt) (fun r w2 => w2 = (SH, dt) ∧ ((∃ v : Int, r = some (.inl v) ∧ (0 ≤ v ∧ v ≤ 65535) ∧ (v = (am_Sby.getD 4 []).getD p2.toNat 0)))) := by
  refine go_toq PM256 (k := 3) (pc' := 3) (L' := [some (.inr (.inr (some 2004))), some (.inl p2)]) (st' := [.inl 5, .inl p2]) (w' := (SH, dt)) rfl ?_
  refine go_callq PM256 PM255 (Q' := _) rfl rfl rfl rfl (sp_J0_checkIndex_df160 L xs sio (d + 0) dt hI  p2 (by first | exact h_p2 | exact bnd h_p2 (by decide) (by decide) | exact ⟨by fail, by fail⟩) 5 ⟨by decide, by decide⟩ (by first | exact True.intro | with_reducible assumption | rfl | omega | trivial)) ?_
  rintro _ _ ⟨rfl, h1⟩
  refine ⟨rfl, ?_⟩
  rcases h1 with ⟨rfl, h1⟩
  refine go_toq PM256 (k := 2) (pc' := 8) (L' := [some (.inr (.inr (some 2004))), some (.inl p2)]) (st' := [.inl p2, .inr (.inr (some 2004))]) (w' := (SH, dt)) rfl ?_
  have r2 := sby_R 4 (p2).toNat
  refine go_smpq PM256 (L' := [some (.inr (.inr (some 2004))), some (.inl p2)]) (st' := [.inl ((am_Sby.getD 4 []).getD (p2).toNat 0)]) (w' := (SH, dt)) rfl rfl (s_bald (n := 5) (f := fun q => (am_Sby.getD 4 []).getD q 0) rfl (by first | exact bndx h_p2 (by decide) (by decide) | exact ⟨by fail, by fail⟩)) ?_
  have r3 : 0 ≤ am_and ((am_Sby.getD 4 []).getD (p2).toNat 0) 255 ∧ am_and ((am_Sby.getD 4 []).getD (p2).toNat 0) 255 ≤ 255 := and_R255
  have r4 := i2c_R (am_and ((am_Sby.getD 4 []).getD (p2).toNat 0) 255)
  refine go_toq PM256 (k := 3) (pc' := 14) (L' := [some (.inr (.inr (some 2004))), some (.inl p2)]) (st' := [.inl (am_i2c (am_and ((am_Sby.getD 4 []).getD (p2).toNat 0) 255))]) (w' := (SH, dt)) rfl ?_
  refine go_retvq PM256 (v := am_i2c (am_and ((am_Sby.getD 4 []).getD (p2).toNat 0) 255)) rfl (decide_eq_true (show 0 ≤ am_i2c (am_and ((am_Sby.getD 4 []).getD (p2).toNat 0) 255) ∧ am_i2c (am_and ((am_Sby.getD 4 []).getD (p2).toNat 0) 255) < 65536 by omega)) ?_
  exact ⟨rfl, ⟨_, rfl, ⟨by omega, by omega⟩, by exact ic_id ⟨by omega, by omega⟩⟩⟩
theorem sp_J0_charAt_5068e_4f (L : Nat) (xs : Nat → Int32) (sio : Option Nat) (d : Nat) (dt : Nat → Nat → Int) (hI : InvC dt)  (p1 : Int) (h_p1 : 0 ≤ p1 ∧ p1 ≤ 4)  : GO (am_XX L xs sio) (d + 3) 250 0 [some (.inr (.inr (some 1004))), some (.inl p1)] [] (SH, dt) (fun r w2 => w2 = (SH, dt) ∧ ((∃ v : Int, r = some (.inl v) ∧ (0 ≤ v ∧ v ≤ 65535) ∧ (v = (am_Sby.getD 4 []).getD p1.toNat 0)))) := by
  refine go_toq PM250 (k := 1) (pc' := 1) (L' := [some (.inr (.inr (some 1004))), some (.inl p1)]) (st' := [.inr (.inr (some 1004))]) (w' := (SH, dt)) rfl ?_
  refine go_callq PM250 PM254 (Q' := _) rfl rfl rfl rfl (sp_J0_isLatin1_aae02_1004 L xs sio (d + 2) dt hI   ) ?_
  rintro _ _ ⟨rfl, h1⟩
  refine ⟨rfl, ?_⟩
  rcases h1 with ⟨rfl, h1⟩
  refine go_toq PM250 (k := 4) (pc' := 12) (L' := [some (.inr (.inr (some 1004))), some (.inl p1)]) (st' := [.inl p1, .inr (.inr (some 2004))]) (w' := (SH, dt)) rfl ?_
  refine go_callq PM250 PM256 (Q' := _) rfl rfl rfl rfl (sp_J1_charAt_3b067_4f L xs sio (d + 0) dt hI  p1 (by first | exact h_p1 | exact bnd h_p1 (by decide) (by decide) | exact ⟨by fail, by fail⟩) ) ?_
  rintro _ _ ⟨rfl, h2⟩
  refine ⟨rfl, ?_⟩
  rcases h2 with ⟨v_h2, rfl, h2r, h2⟩
  refine go_retvq PM250 (v := v_h2) rfl (decide_eq_true (show 0 ≤ v_h2 ∧ v_h2 < 65536 by omega)) ?_
  exact ⟨rfl, ⟨_, rfl, ⟨by omega, by omega⟩, by first | exact True.intro | with_reducible assumption | rfl | fail | trivial⟩⟩
set_option maxRecDepth 20000 in
theorem sp_X6_is_4f (L : Nat) (xs : Nat → Int32) (sio : Option Nat) (d : Nat) (dt : Nat → Nat → Int) (hI : InvC dt)   (h_p0 : dt 79 13 ≤ 500) (h_p1 : dt 79 15 ≤ dt 79 13) (h_p2 : dt 79 13 ≤ dt 79 12) : GO (am_XX L xs sio) (d + 4) 156 0 [some (.inr (.inr (some 79))), some (.inr (.inr (some 1004))), none, none] [] (SH, dt) (fun r w2 => w2 = (SH, dt) ∧ ((∃ v : Int, r = some (.inl v) ∧ (0 ≤ v ∧ v ≤ 1) ∧ (v = wm (am_Sby.getD 4 []) (mB (dt 85) (dt 79 12)) (dt 79 15).toNat (dt 79 13).toNat)))) := by
  have r1 : 0 ≤ dt 79 13 ∧ dt 79 13 ≤ 501 := InvC_get hI 79 13 rfl rfl
  have r2 : 0 ≤ dt 79 15 ∧ dt 79 15 ≤ 500 := InvC_get hI 79 15 rfl rfl
  have r3 : 0 ≤ dt 79 12 ∧ dt 79 12 ≤ 500 := InvC_get hI 79 12 rfl rfl
  have hlen : (((am_Sby.getD 4 []).length : Nat) : Int) = 5 := rfl
  refine go_toq PM156 (k := 6) (pc' := 10) (L' := [some (.inr (.inr (some 79))), some (.inr (.inr (some 1004))), none, none]) (st' := [.inr (.inr (some 1004)), .inl ((dt 79 13) - (dt 79 15))]) (w' := (SH, dt)) rfl ?_
  refine go_callq PM156 PM249 (Q' := _) rfl rfl rfl rfl (sp_J0_length_8abf5_1004 L xs sio (d + 2) dt hI   ) ?_
  rintro _ _ ⟨rfl, h4⟩
  refine ⟨rfl, ?_⟩
  rcases h4 with ⟨rfl, h4⟩
  refine go_ifq PM156 (k := 0) (p1 := 20) (p2 := 16) (L' := [some (.inr (.inr (some 79))), some (.inr (.inr (some 1004))), none, none]) (st' := []) (w' := (SH, dt)) rfl (c_ne (a := (dt 79 13) - (dt 79 15)) (b := 5) ⟨by omega, by omega⟩ ⟨by decide, by decide⟩) (fun c5 => ?_) (fun c5 => ?_)
  · skip
    replace c5 := hid c5
    refine go_toq PM156 (k := 4) (pc' := 24) (L' := [some (.inr (.inr (some 79))), some (.inr (.inr (some 1004))), some (.inl 0), some (.inl 0)]) (st' := []) (w' := (SH, dt)) rfl ?_
    have loop18 : ∀ (k_ : Nat) (l24_2 : Int) (l24_3 : Int) (i13 : 0 ≤ l24_2 ∧ l24_2 ≤ 1) (i14 : 0 ≤ l24_3 ∧ l24_3 ≤ 5) (i15 : l24_2 = 1 → WQ (am_Sby.getD 4 []) (dt 79 13 - dt 79 15) (mB (dt 85) (dt 79 12)) (dt 79 15) l24_3) (i16 : l24_2 = 0 → wm (am_Sby.getD 4 []) (mB (dt 85) (dt 79 12)) (dt 79 15).toNat (dt 79 13).toNat = 0) (i17 : l24_2 = 0 ∨ dt 79 13 - dt 79 15 = 5), (6 - l24_3).toNat < k_ → GO (am_XX L xs sio) (d + 4) 156 24 [some (.inr (.inr (some 79))), some (.inr (.inr (some 1004))), some (.inl l24_2), some (.inl l24_3)] [] (SH, dt) (fun r w2 => w2 = (SH, dt) ∧ ((∃ v : Int, r = some (.inl v) ∧ (0 ≤ v ∧ v ≤ 1) ∧ (v = wm (am_Sby.getD 4 []) (mB (dt 85) (dt 79 12)) (dt 79 15).toNat (dt 79 13).toNat)))) := by
      intro k_
      induction k_ with
      | zero => intro l24_2 l24_3 i13 i14 i15 i16 i17 hm; exact absurd hm (Nat.not_lt_zero _)
      | succ k_ ih_loop18 =>
        intro l24_2 l24_3 i13 i14 i15 i16 i17 hm
        replace i15 := hid i15
        replace i16 := hid i16
        replace i17 := hid i17
        have q1 := i15
        have q2 := i16
        refine go_toq PM156 (k := 2) (pc' := 26) (L' := [some (.inr (.inr (some 79))), some (.inr (.inr (some 1004))), some (.inl l24_2), some (.inl l24_3)]) (st' := [.inr (.inr (some 1004)), .inl l24_3]) (w' := (SH, dt)) rfl ?_
        refine go_callq PM156 PM249 (Q' := _) rfl rfl rfl rfl (sp_J0_length_8abf5_1004 L xs sio (d + 2) dt hI   ) ?_
        rintro _ _ ⟨rfl, h19⟩
        refine ⟨rfl, ?_⟩
        rcases h19 with ⟨rfl, h19⟩
        refine go_ifq PM156 (k := 0) (p1 := 67) (p2 := 32) (L' := [some (.inr (.inr (some 79))), some (.inr (.inr (some 1004))), some (.inl l24_2), some (.inl l24_3)]) (st' := []) (w' := (SH, dt)) rfl (c_ge (a := l24_3) (b := 5) (by first | exact bnd i14 (by decide) (by decide) | exact ⟨by fail, by fail⟩) ⟨by decide, by decide⟩) (fun c20 => ?_) (fun c20 => ?_)
        · skip
          refine go_toq PM156 (k := 1) (pc' := 68) (L' := [some (.inr (.inr (some 79))), some (.inr (.inr (some 1004))), some (.inl l24_2), some (.inl l24_3)]) (st' := [.inl l24_2]) (w' := (SH, dt)) rfl ?_
          refine go_retvq PM156 (v := l24_2) rfl (decide_eq_true (show l24_2 = 0 ∨ l24_2 = 1 by omega)) ?_
          exact ⟨rfl, ⟨_, rfl, ⟨by omega, by omega⟩, by rcases (show l24_2 = 0 ∨ l24_2 = 1 by omega) with z | z <;> first | (rw [q2 z]; exact z) | (rw [WM_1 (q1 z) ⟨by omega, by omega⟩ (by omega)]; exact z)⟩⟩
        · skip
          refine go_ifq PM156 (k := 1) (p1 := 67) (p2 := 36) (L' := [some (.inr (.inr (some 79))), some (.inr (.inr (some 1004))), some (.inl l24_2), some (.inl l24_3)]) (st' := []) (w' := (SH, dt)) rfl (z_eq (a := l24_2) (by first | exact bnd i13 (by decide) (by decide) | exact ⟨by fail, by fail⟩)) (fun c21 => ?_) (fun c21 => ?_)
          · skip
            refine go_toq PM156 (k := 1) (pc' := 68) (L' := [some (.inr (.inr (some 79))), some (.inr (.inr (some 1004))), some (.inl l24_2), some (.inl l24_3)]) (st' := [.inl l24_2]) (w' := (SH, dt)) rfl ?_
            refine go_retvq PM156 (v := l24_2) rfl (decide_eq_true (show l24_2 = 0 ∨ l24_2 = 1 by omega)) ?_
            exact ⟨rfl, ⟨_, rfl, ⟨by omega, by omega⟩, by rcases (show l24_2 = 0 ∨ l24_2 = 1 by omega) with z | z <;> first | (rw [q2 z]; exact z) | (rw [WM_1 (q1 z) ⟨by omega, by omega⟩ (by omega)]; exact z)⟩⟩
          · skip
            replace c21 := hid c21
            refine go_toq PM156 (k := 6) (pc' := 46) (L' := [some (.inr (.inr (some 79))), some (.inr (.inr (some 1004))), some (.inl l24_2), some (.inl l24_3)]) (st' := [.inl ((dt 79 15) + l24_3), .inr (.inr (some 85))]) (w' := (SH, dt)) rfl ?_
            have r22 : 0 ≤ dt 85 (((dt 79 15) + l24_3).toNat) ∧ dt 85 (((dt 79 15) + l24_3).toNat) ≤ 255 := InvC_get hI 85 (((dt 79 15) + l24_3).toNat) rfl rfl
            have u4_ := hid (And.intro (unhid c5) (And.intro (unhid i16) (And.intro (unhid i17) (unhid c21))))
            refine go_smpq PM156 (L' := [some (.inr (.inr (some 79))), some (.inr (.inr (some 1004))), some (.inl l24_2), some (.inl l24_3)]) (st' := [.inl (dt 85 (((dt 79 15) + l24_3).toNat))]) (w' := (SH, dt)) rfl rfl (s_iald (n := 500) (f := dt 85) rfl ⟨by omega, by (have z_ := unhid u4_; omega)⟩) ?_
            refine go_toq PM156 (k := 2) (pc' := 49) (L' := [some (.inr (.inr (some 79))), some (.inr (.inr (some 1004))), some (.inl l24_2), some (.inl l24_3)]) (st' := [.inl l24_3, .inr (.inr (some 1004)), .inl (dt 85 (((dt 79 15) + l24_3).toNat))]) (w' := (SH, dt)) rfl ?_
            refine go_callq PM156 PM250 (Q' := _) rfl rfl rfl rfl (sp_J0_charAt_5068e_4f L xs sio (d + 0) dt hI  l24_3 (by first | exact bnd i14 (by decide) (by decide) | exact bndd i14 c20 (by decide) (by decide) | exact ⟨by fail, by fail⟩) ) ?_
            rintro _ _ ⟨rfl, h23⟩
            refine ⟨rfl, ?_⟩
            rcases h23 with ⟨v_h23, rfl, h23r, h23⟩
            refine go_ifq PM156 (k := 0) (p1 := 59) (p2 := 55) (L' := [some (.inr (.inr (some 79))), some (.inr (.inr (some 1004))), some (.inl l24_2), some (.inl l24_3)]) (st' := []) (w' := (SH, dt)) rfl (c_ne (a := dt 85 (((dt 79 15) + l24_3).toNat)) (b := v_h23) (by first | exact bnd r22 (by decide) (by decide) | exact ⟨by fail, by fail⟩) (by first | exact bnd h23r (by decide) (by decide) | exact ⟨by fail, by fail⟩)) (fun c24 => ?_) (fun c24 => ?_)
            · skip
              replace c24 := hid c24
              refine go_toq PM156 (k := 4) (pc' := 24) (L' := [some (.inr (.inr (some 79))), some (.inr (.inr (some 1004))), some (.inl 0), some (.inl (l24_3 + 1))]) (st' := []) (w' := (SH, dt)) rfl ?_
              have u5_ := hid (And.intro (unhid c5) (And.intro (unhid i16) (And.intro (unhid i17) (And.intro (unhid c21) (unhid c24)))))
              exact GO.le (ih_loop18 0 (l24_3 + 1) (by first | omega | (intro z; first | fail | exact WQ_0 (by fail) (by fail) | exact WM_a ⟨by fail, by fail⟩ (by fail) | exact WQ_s (q1 (by fail)) ⟨by fail, by fail⟩ (mB_in (by fail) (by fail)).symm h23 (by fail) | exact WM_b ⟨by fail, by fail⟩ (by fail) (mB_in (by fail) (by fail)).symm h23 (by fail))) (by first | omega | (intro z; first | fail | exact WQ_0 (by fail) (by fail) | exact WM_a ⟨by fail, by fail⟩ (by fail) | exact WQ_s (q1 (by fail)) ⟨by fail, by fail⟩ (mB_in (by fail) (by fail)).symm h23 (by fail) | exact WM_b ⟨by fail, by fail⟩ (by fail) (mB_in (by fail) (by fail)).symm h23 (by fail))) (by first | omega | (intro z; first | fail | exact WQ_0 (by fail) (by fail) | exact WM_a ⟨by fail, by fail⟩ (by fail) | exact WQ_s (q1 (by fail)) ⟨by fail, by fail⟩ (mB_in (by fail) (by fail)).symm h23 (by fail) | exact WM_b ⟨by fail, by fail⟩ (by fail) (mB_in (by fail) (by fail)).symm h23 (by fail))) (by first | (have z_ := unhid u5_; omega) | (intro z; first | fail | exact WQ_0 (by fail) (by fail) | exact WM_a ⟨by fail, by fail⟩ (by fail) | exact WQ_s (q1 (by fail)) ⟨by fail, by fail⟩ (mB_in (by fail) (by fail)).symm h23 (by fail) | exact WM_b ⟨by fail, by fail⟩ (by fail) (mB_in (by fail) (by fail)).symm h23 (by fail))) (by first | omega | (intro z; first | fail | exact WQ_0 (by fail) (by fail) | exact WM_a ⟨by fail, by fail⟩ (by fail) | exact WQ_s (q1 (by fail)) ⟨by fail, by fail⟩ (mB_in (by fail) (by fail)).symm h23 (by fail) | exact WM_b ⟨by fail, by fail⟩ (by fail) (mB_in (by fail) (by fail)).symm h23 (by fail))) (by omega)) ⟨.inl rfl, .inl rfl, .inl rfl, .inl rfl, trivial⟩
            · skip
              refine go_toq PM156 (k := 5) (pc' := 24) (L' := [some (.inr (.inr (some 79))), some (.inr (.inr (some 1004))), some (.inl 1), some (.inl (l24_3 + 1))]) (st' := []) (w' := (SH, dt)) rfl ?_
              exact GO.le (ih_loop18 1 (l24_3 + 1) (by first | omega | (intro z; first | fail | exact WQ_0 (by fail) (by fail) | exact WM_a ⟨by fail, by fail⟩ (by fail) | exact WQ_s (q1 (by fail)) ⟨by fail, by fail⟩ (mB_in (by fail) (by fail)).symm h23 (by fail) | exact WM_b ⟨by fail, by fail⟩ (by fail) (mB_in (by fail) (by fail)).symm h23 (by fail))) (by first | omega | (intro z; first | fail | exact WQ_0 (by fail) (by fail) | exact WM_a ⟨by fail, by fail⟩ (by fail) | exact WQ_s (q1 (by fail)) ⟨by fail, by fail⟩ (mB_in (by fail) (by fail)).symm h23 (by fail) | exact WM_b ⟨by fail, by fail⟩ (by fail) (mB_in (by fail) (by fail)).symm h23 (by fail))) (by first | (have z_ := unhid u4_; omega) | (intro z; first | fail | exact WQ_0 (by fail) (by fail) | exact WM_a ⟨by fail, by fail⟩ (by fail) | exact WQ_s (q1 (by fail)) ⟨by fail, by fail⟩ (mB_in (by fail) (by fail)).symm h23 (by fail) | exact WM_b ⟨by fail, by fail⟩ (by fail) (mB_in (by fail) (by fail)).symm h23 (by fail))) (by first | omega | (intro z; first | fail | exact WQ_0 (by fail) (by fail) | exact WM_a ⟨by fail, by fail⟩ (by fail) | exact WQ_s (q1 (by fail)) ⟨by fail, by fail⟩ (mB_in (by fail) (by fail)).symm h23 (by fail) | exact WM_b ⟨by fail, by fail⟩ (by fail) (mB_in (by fail) (by fail)).symm h23 (by fail))) (by first | (have z_ := unhid u4_; omega) | (intro z; first | fail | exact WQ_0 (by fail) (by fail) | exact WM_a ⟨by fail, by fail⟩ (by fail) | exact WQ_s (q1 (by fail)) ⟨by fail, by fail⟩ (mB_in (by fail) (by fail)).symm h23 (by fail) | exact WM_b ⟨by fail, by fail⟩ (by fail) (mB_in (by fail) (by fail)).symm h23 (by fail))) (by omega)) ⟨.inl rfl, .inl rfl, .inl rfl, .inl rfl, trivial⟩
    exact GO.le (loop18 _ 0 0 (by first | omega | (intro z; first | fail | exact WQ_0 (by fail) (by fail) | exact WM_a ⟨by fail, by fail⟩ (by fail) | exact WQ_s (q1 (by fail)) ⟨by fail, by fail⟩ (mB_in (by fail) (by fail)).symm hI (by fail) | exact WM_b ⟨by fail, by fail⟩ (by fail) (mB_in (by fail) (by fail)).symm hI (by fail))) (by first | omega | (intro z; first | fail | exact WQ_0 (by fail) (by fail) | exact WM_a ⟨by fail, by fail⟩ (by fail) | exact WQ_s (q1 (by fail)) ⟨by fail, by fail⟩ (mB_in (by fail) (by fail)).symm hI (by fail) | exact WM_b ⟨by fail, by fail⟩ (by fail) (mB_in (by fail) (by fail)).symm hI (by fail))) (by first | omega | (intro z; first | fail | exact WQ_0 (by fail) (by fail) | exact WM_a ⟨by fail, by fail⟩ (by fail) | exact WQ_s (q1 (by fail)) ⟨by fail, by fail⟩ (mB_in (by fail) (by fail)).symm hI (by fail) | exact WM_b ⟨by fail, by fail⟩ (by fail) (mB_in (by fail) (by fail)).symm hI (by fail))) (by first | fail | (intro z; first | fail | exact WQ_0 (by fail) (by fail) | exact WM_a ⟨by omega, by omega⟩ (by (have z0_ := unhid c5; omega)) | exact WQ_s (q1 (by fail)) ⟨by fail, by fail⟩ (mB_in (by fail) (by fail)).symm hI (by fail) | exact WM_b ⟨by fail, by fail⟩ (by fail) (mB_in (by fail) (by fail)).symm hI (by fail))) (by first | omega | (intro z; first | fail | exact WQ_0 (by fail) (by fail) | exact WM_a ⟨by fail, by fail⟩ (by fail) | exact WQ_s (q1 (by fail)) ⟨by fail, by fail⟩ (mB_in (by fail) (by fail)).symm hI (by fail) | exact WM_b ⟨by fail, by fail⟩ (by fail) (mB_in (by fail) (by fail)).symm hI (by fail))) (Nat.lt_succ_self _)) ⟨.inl rfl, .inl rfl, .inl rfl, .inl rfl, trivial⟩
  · skip
    refine go_toq PM156 (k := 5) (pc' := 24) (L' := [some (.inr (.inr (some 79))), some (.inr (.inr (some 1004))), some (.inl 1), some (.inl 0)]) (st' := []) (w' := (SH, dt)) rfl ?_
    have loop37 : ∀ (k_ : Nat) (l24_2 : Int) (l24_3 : Int) (i32 : 0 ≤ l24_2 ∧ l24_2 ≤ 1) (i33 : 0 ≤ l24_3 ∧ l24_3 ≤ 5) (i34 : l24_2 = 1 → WQ (am_Sby.getD 4 []) (dt 79 13 - dt 79 15) (mB (dt 85) (dt 79 12)) (dt 79 15) l24_3) (i35 : l24_2 = 0 → wm (am_Sby.getD 4 []) (mB (dt 85) (dt 79 12)) (dt 79 15).toNat (dt 79 13).toNat = 0) (i36 : l24_2 = 0 ∨ dt 79 13 - dt 79 15 = 5), (6 - l24_3).toNat < k_ → GO (am_XX L xs sio) (d + 4) 156 24 [some (.inr (.inr (some 79))), some (.inr (.inr (some 1004))), some (.inl l24_2), some (.inl l24_3)] [] (SH, dt) (fun r w2 => w2 = (SH, dt) ∧ ((∃ v : Int, r = some (.inl v) ∧ (0 ≤ v ∧ v ≤ 1) ∧ (v = wm (am_Sby.getD 4 []) (mB (dt 85) (dt 79 12)) (dt 79 15).toNat (dt 79 13).toNat)))) := by
      intro k_
      induction k_ with
      | zero => intro l24_2 l24_3 i32 i33 i34 i35 i36 hm; exact absurd hm (Nat.not_lt_zero _)
      | succ k_ ih_loop37 =>
        intro l24_2 l24_3 i32 i33 i34 i35 i36 hm
        replace i34 := hid i34
        replace i35 := hid i35
        replace i36 := hid i36
        have q1 := i34
        have q2 := i35
        refine go_toq PM156 (k := 2) (pc' := 26) (L' := [some (.inr (.inr (some 79))), some (.inr (.inr (some 1004))), some (.inl l24_2), some (.inl l24_3)]) (st' := [.inr (.inr (some 1004)), .inl l24_3]) (w' := (SH, dt)) rfl ?_
        refine go_callq PM156 PM249 (Q' := _) rfl rfl rfl rfl (sp_J0_length_8abf5_1004 L xs sio (d + 2) dt hI   ) ?_
        rintro _ _ ⟨rfl, h38⟩
        refine ⟨rfl, ?_⟩
        rcases h38 with ⟨rfl, h38⟩
        refine go_ifq PM156 (k := 0) (p1 := 67) (p2 := 32) (L' := [some (.inr (.inr (some 79))), some (.inr (.inr (some 1004))), some (.inl l24_2), some (.inl l24_3)]) (st' := []) (w' := (SH, dt)) rfl (c_ge (a := l24_3) (b := 5) (by first | exact bnd i33 (by decide) (by decide) | exact ⟨by fail, by fail⟩) ⟨by decide, by decide⟩) (fun c39 => ?_) (fun c39 => ?_)
        · skip
          refine go_toq PM156 (k := 1) (pc' := 68) (L' := [some (.inr (.inr (some 79))), some (.inr (.inr (some 1004))), some (.inl l24_2), some (.inl l24_3)]) (st' := [.inl l24_2]) (w' := (SH, dt)) rfl ?_
          refine go_retvq PM156 (v := l24_2) rfl (decide_eq_true (show l24_2 = 0 ∨ l24_2 = 1 by omega)) ?_
          exact ⟨rfl, ⟨_, rfl, ⟨by omega, by omega⟩, by rcases (show l24_2 = 0 ∨ l24_2 = 1 by omega) with z | z <;> first | (rw [q2 z]; exact z) | (rw [WM_1 (q1 z) ⟨by omega, by omega⟩ (by omega)]; exact z)⟩⟩
        · skip
          refine go_ifq PM156 (k := 1) (p1 := 67) (p2 := 36) (L' := [some (.inr (.inr (some 79))), some (.inr (.inr (some 1004))), some (.inl l24_2), some (.inl l24_3)]) (st' := []) (w' := (SH, dt)) rfl (z_eq (a := l24_2) (by first | exact bnd i32 (by decide) (by decide) | exact ⟨by fail, by fail⟩)) (fun c40 => ?_) (fun c40 => ?_)
          · skip
            refine go_toq PM156 (k := 1) (pc' := 68) (L' := [some (.inr (.inr (some 79))), some (.inr (.inr (some 1004))), some (.inl l24_2), some (.inl l24_3)]) (st' := [.inl l24_2]) (w' := (SH, dt)) rfl ?_
            refine go_retvq PM156 (v := l24_2) rfl (decide_eq_true (show l24_2 = 0 ∨ l24_2 = 1 by omega)) ?_
            exact ⟨rfl, ⟨_, rfl, ⟨by omega, by omega⟩, by rcases (show l24_2 = 0 ∨ l24_2 = 1 by omega) with z | z <;> first | (rw [q2 z]; exact z) | (rw [WM_1 (q1 z) ⟨by omega, by omega⟩ (by omega)]; exact z)⟩⟩
          · skip
            replace c40 := hid c40
            refine go_toq PM156 (k := 6) (pc' := 46) (L' := [some (.inr (.inr (some 79))), some (.inr (.inr (some 1004))), some (.inl l24_2), some (.inl l24_3)]) (st' := [.inl ((dt 79 15) + l24_3), .inr (.inr (some 85))]) (w' := (SH, dt)) rfl ?_
            have r41 : 0 ≤ dt 85 (((dt 79 15) + l24_3).toNat) ∧ dt 85 (((dt 79 15) + l24_3).toNat) ≤ 255 := InvC_get hI 85 (((dt 79 15) + l24_3).toNat) rfl rfl
            refine go_smpq PM156 (L' := [some (.inr (.inr (some 79))), some (.inr (.inr (some 1004))), some (.inl l24_2), some (.inl l24_3)]) (st' := [.inl (dt 85 (((dt 79 15) + l24_3).toNat))]) (w' := (SH, dt)) rfl rfl (s_iald (n := 500) (f := dt 85) rfl ⟨by omega, by omega⟩) ?_
            refine go_toq PM156 (k := 2) (pc' := 49) (L' := [some (.inr (.inr (some 79))), some (.inr (.inr (some 1004))), some (.inl l24_2), some (.inl l24_3)]) (st' := [.inl l24_3, .inr (.inr (some 1004)), .inl (dt 85 (((dt 79 15) + l24_3).toNat))]) (w' := (SH, dt)) rfl ?_
            refine go_callq PM156 PM250 (Q' := _) rfl rfl rfl rfl (sp_J0_charAt_5068e_4f L xs sio (d + 0) dt hI  l24_3 (by first | exact bnd i33 (by decide) (by decide) | exact bndd i33 c39 (by decide) (by decide) | exact ⟨by fail, by fail⟩) ) ?_
            rintro _ _ ⟨rfl, h42⟩
            refine ⟨rfl, ?_⟩
            rcases h42 with ⟨v_h42, rfl, h42r, h42⟩
            refine go_ifq PM156 (k := 0) (p1 := 59) (p2 := 55) (L' := [some (.inr (.inr (some 79))), some (.inr (.inr (some 1004))), some (.inl l24_2), some (.inl l24_3)]) (st' := []) (w' := (SH, dt)) rfl (c_ne (a := dt 85 (((dt 79 15) + l24_3).toNat)) (b := v_h42) (by first | exact bnd r41 (by decide) (by decide) | exact ⟨by fail, by fail⟩) (by first | exact bnd h42r (by decide) (by decide) | exact ⟨by fail, by fail⟩)) (fun c43 => ?_) (fun c43 => ?_)
            · skip
              replace c43 := hid c43
              refine go_toq PM156 (k := 4) (pc' := 24) (L' := [some (.inr (.inr (some 79))), some (.inr (.inr (some 1004))), some (.inl 0), some (.inl (l24_3 + 1))]) (st' := []) (w' := (SH, dt)) rfl ?_
              have u6_ := hid (And.intro (unhid i35) (And.intro (unhid i36) (And.intro (unhid c40) (unhid c43))))
              exact GO.le (ih_loop37 0 (l24_3 + 1) (by first | omega | (intro z; first | fail | exact WQ_0 (by fail) (by fail) | exact WM_a ⟨by fail, by fail⟩ (by fail) | exact WQ_s (q1 (by fail)) ⟨by fail, by fail⟩ (mB_in (by fail) (by fail)).symm h42 (by fail) | exact WM_b ⟨by fail, by fail⟩ (by fail) (mB_in (by fail) (by fail)).symm h42 (by fail))) (by first | omega | (intro z; first | fail | exact WQ_0 (by fail) (by fail) | exact WM_a ⟨by fail, by fail⟩ (by fail) | exact WQ_s (q1 (by fail)) ⟨by fail, by fail⟩ (mB_in (by fail) (by fail)).symm h42 (by fail) | exact WM_b ⟨by fail, by fail⟩ (by fail) (mB_in (by fail) (by fail)).symm h42 (by fail))) (by first | omega | (intro z; first | fail | exact WQ_0 (by fail) (by fail) | exact WM_a ⟨by fail, by fail⟩ (by fail) | exact WQ_s (q1 (by fail)) ⟨by fail, by fail⟩ (mB_in (by fail) (by fail)).symm h42 (by fail) | exact WM_b ⟨by fail, by fail⟩ (by fail) (mB_in (by fail) (by fail)).symm h42 (by fail))) (by first | fail | (intro z; first | fail | exact WQ_0 (by fail) (by fail) | exact WM_a ⟨by omega, by omega⟩ (by fail) | exact WQ_s (q1 (by (have z_ := unhid u6_; omega))) ⟨by omega, by omega⟩ (mB_in (by omega) (by omega)).symm h42 (by fail) | exact WM_b ⟨by omega, by omega⟩ (by omega) (mB_in (by omega) (by omega)).symm h42 (by (have z_ := unhid u6_; omega)))) (by first | omega | (intro z; first | fail | exact WQ_0 (by fail) (by fail) | exact WM_a ⟨by fail, by fail⟩ (by fail) | exact WQ_s (q1 (by fail)) ⟨by fail, by fail⟩ (mB_in (by fail) (by fail)).symm h42 (by fail) | exact WM_b ⟨by fail, by fail⟩ (by fail) (mB_in (by fail) (by fail)).symm h42 (by fail))) (by omega)) ⟨.inl rfl, .inl rfl, .inl rfl, .inl rfl, trivial⟩
            · skip
              refine go_toq PM156 (k := 5) (pc' := 24) (L' := [some (.inr (.inr (some 79))), some (.inr (.inr (some 1004))), some (.inl 1), some (.inl (l24_3 + 1))]) (st' := []) (w' := (SH, dt)) rfl ?_
              exact GO.le (ih_loop37 1 (l24_3 + 1) (by first | omega | (intro z; first | fail | exact WQ_0 (by fail) (by fail) | exact WM_a ⟨by fail, by fail⟩ (by fail) | exact WQ_s (q1 (by fail)) ⟨by fail, by fail⟩ (mB_in (by fail) (by fail)).symm h42 (by fail) | exact WM_b ⟨by fail, by fail⟩ (by fail) (mB_in (by fail) (by fail)).symm h42 (by fail))) (by first | omega | (intro z; first | fail | exact WQ_0 (by fail) (by fail) | exact WM_a ⟨by fail, by fail⟩ (by fail) | exact WQ_s (q1 (by fail)) ⟨by fail, by fail⟩ (mB_in (by fail) (by fail)).symm h42 (by fail) | exact WM_b ⟨by fail, by fail⟩ (by fail) (mB_in (by fail) (by fail)).symm h42 (by fail))) (by first | fail | (intro z; first | fail | exact WQ_0 (by omega) (by fail) | exact WM_a ⟨by fail, by fail⟩ (by fail) | exact WQ_s (q1 (by (have z0_ := unhid i35; have z1_ := unhid i36; have z2_ := unhid c40; omega))) ⟨by omega, by omega⟩ (mB_in (by omega) (by omega)).symm h42 (by omega) | exact WM_b ⟨by fail, by fail⟩ (by fail) (mB_in (by fail) (by fail)).symm h42 (by fail))) (by first | omega | (intro z; first | fail | exact WQ_0 (by fail) (by fail) | exact WM_a ⟨by fail, by fail⟩ (by fail) | exact WQ_s (q1 (by fail)) ⟨by fail, by fail⟩ (mB_in (by fail) (by fail)).symm h42 (by fail) | exact WM_b ⟨by fail, by fail⟩ (by fail) (mB_in (by fail) (by fail)).symm h42 (by fail))) (by first | omega | (intro z; first | fail | exact WQ_0 (by fail) (by fail) | exact WM_a ⟨by fail, by fail⟩ (by fail) | exact WQ_s (q1 (by fail)) ⟨by fail, by fail⟩ (mB_in (by fail) (by fail)).symm h42 (by fail) | exact WM_b ⟨by fail, by fail⟩ (by fail) (mB_in (by fail) (by fail)).symm h42 (by fail))) (by omega)) ⟨.inl rfl, .inl rfl, .inl rfl, .inl rfl, trivial⟩
    exact GO.le (loop37 _ 1 0 (by first | omega | (intro z; first | fail | exact WQ_0 (by fail) (by fail) | exact WM_a ⟨by fail, by fail⟩ (by fail) | exact WQ_s (q1 (by fail)) ⟨by fail, by fail⟩ (mB_in (by fail) (by fail)).symm hI (by fail) | exact WM_b ⟨by fail, by fail⟩ (by fail) (mB_in (by fail) (by fail)).symm hI (by fail))) (by first | omega | (intro z; first | fail | exact WQ_0 (by fail) (by fail) | exact WM_a ⟨by fail, by fail⟩ (by fail) | exact WQ_s (q1 (by fail)) ⟨by fail, by fail⟩ (mB_in (by fail) (by fail)).symm hI (by fail) | exact WM_b ⟨by fail, by fail⟩ (by fail) (mB_in (by fail) (by fail)).symm hI (by fail))) (by first | fail | (intro z; first | fail | exact WQ_0 (by omega) (by omega) | exact WM_a ⟨by fail, by fail⟩ (by fail) | exact WQ_s (q1 (by fail)) ⟨by fail, by fail⟩ (mB_in (by fail) (by fail)).symm hI (by fail) | exact WM_b ⟨by fail, by fail⟩ (by fail) (mB_in (by fail) (by fail)).symm hI (by fail))) (by first | omega | (intro z; first | fail | exact WQ_0 (by fail) (by fail) | exact WM_a ⟨by fail, by fail⟩ (by fail) | exact WQ_s (q1 (by fail)) ⟨by fail, by fail⟩ (mB_in (by fail) (by fail)).symm hI (by fail) | exact WM_b ⟨by fail, by fail⟩ (by fail) (mB_in (by fail) (by fail)).symm hI (by fail))) (by first | omega | (intro z; first | fail | exact WQ_0 (by fail) (by fail) | exact WM_a ⟨by fail, by fail⟩ (by fail) | exact WQ_s (q1 (by fail)) ⟨by fail, by fail⟩ (mB_in (by fail) (by fail)).symm hI (by fail) | exact WM_b ⟨by fail, by fail⟩ (by fail) (mB_in (by fail) (by fail)).symm hI (by fail))) (Nat.lt_succ_self _)) ⟨.inl rfl, .inl rfl, .inl rfl, .inl rfl, trivial⟩
theorem sp_J1_charAt_3b067_5f (L : Nat) (xs : Nat → Int32) (sio : Option Nat) (d : Nat) (dt : Nat → Nat → Int) (hI : InvC dt)  (p2 : Int) (h_p2 : 0 ≤ p2 ∧ p2 ≤ 2)  : GO (am_XX L xs sio) (d + 2) 256 0 [some (.inr (.inr (some 2005))), some (.inl p2)] [] (SH, dt) (fun r w2 => w2 = (SH, dt) ∧ ((∃ v : Int, r = some (.inl v) ∧ (0 ≤ v ∧ v ≤ 65535) ∧ (v = (am_Sby.getD 5 []).getD p2.toNat 0)))) := by
  refine go_toq PM256 (k := 3) (pc' := 3) (L' := [some (.inr (.inr (some 2005))), some (.inl p2)]) (st' := [.inl 3, .inl p2]) (w' := (SH, dt)) rfl ?_
  refine go_callq PM256 PM255 (Q' := _) rfl rfl rfl rfl (sp_J0_checkIndex_df160 L xs sio (d + 0) dt hI  p2 (by first | exact h_p2 | exact bnd h_p2 (by decide) (by decide) | exact ⟨by fail, by fail⟩) 3 ⟨by decide, by decide⟩ (by first | exact True.intro | with_reducible assumption | rfl | omega | trivial)) ?_
  rintro _ _ ⟨rfl, h1⟩
  refine ⟨rfl, ?_⟩
  rcases h1 with ⟨rfl, h1⟩
  refine go_toq PM256 (k := 2) (pc' := 8) (L' := [some (.inr (.inr (some 2005))), some (.inl p2)]) (st' := [.inl p2, .inr (.inr (some 2005))]) (w' := (SH, dt)) rfl ?_
  have r2 := sby_R 5 (p2).toNat
  refine go_smpq PM256 (L' := [some (.inr (.inr (some 2005))), some (.inl p2)]) (st' := [.inl ((am_Sby.getD 5 []).getD (p2).toNat 0)]) (w' := (SH, dt)) rfl rfl (s_bald (n := 3) (f := fun q => (am_Sby.getD 5 []).getD q 0) rfl (by first | exact bndx h_p2 (by decide) (by decide) | exact ⟨by fail, by fail⟩)) ?_
  have r3 : 0 ≤ am_and ((am_Sby.getD 5 []).getD (p2).toNat 0) 255 ∧ am_and ((am_Sby.getD 5 []).getD (p2).toNat 0) 255 ≤ 255 := and_R255
  have r4 := i2c_R (am_and ((am_Sby.getD 5 []).getD (p2).toNat 0) 255)
  refine go_toq PM256 (k := 3) (pc' := 14) (L' := [some (.inr (.inr (some 2005))), some (.inl p2)]) (st' := [.inl (am_i2c (am_and ((am_Sby.getD 5 []).getD (p2).toNat 0) 255))]) (w' := (SH, dt)) rfl ?_
  refine go_retvq PM256 (v := am_i2c (am_and ((am_Sby.getD 5 []).getD (p2).toNat 0) 255)) rfl (decide_eq_true (show 0 ≤ am_i2c (am_and ((am_Sby.getD 5 []).getD (p2).toNat 0) 255) ∧ am_i2c (am_and ((am_Sby.getD 5 []).getD (p2).toNat 0) 255) < 65536 by omega)) ?_
  exact ⟨rfl, ⟨_, rfl, ⟨by omega, by omega⟩, by exact ic_id ⟨by omega, by omega⟩⟩⟩
theorem sp_J0_charAt_5068e_5f (L : Nat) (xs : Nat → Int32) (sio : Option Nat) (d : Nat) (dt : Nat → Nat → Int) (hI : InvC dt)  (p1 : Int) (h_p1 : 0 ≤ p1 ∧ p1 ≤ 2)  : GO (am_XX L xs sio) (d + 3) 250 0 [some (.inr (.inr (some 1005))), some (.inl p1)] [] (SH, dt) (fun r w2 => w2 = (SH, dt) ∧ ((∃ v : Int, r = some (.inl v) ∧ (0 ≤ v ∧ v ≤ 65535) ∧ (v = (am_Sby.getD 5 []).getD p1.toNat 0)))) := by
  refine go_toq PM250 (k := 1) (pc' := 1) (L' := [some (.inr (.inr (some 1005))), some (.inl p1)]) (st' := [.inr (.inr (some 1005))]) (w' := (SH, dt)) rfl ?_
  refine go_callq PM250 PM254 (Q' := _) rfl rfl rfl rfl (sp_J0_isLatin1_aae02_1005 L xs sio (d + 2) dt hI   ) ?_
  rintro _ _ ⟨rfl, h1⟩
  refine ⟨rfl, ?_⟩
  rcases h1 with ⟨rfl, h1⟩
  refine go_toq PM250 (k := 4) (pc' := 12) (L' := [some (.inr (.inr (some 1005))), some (.inl p1)]) (st' := [.inl p1, .inr (.inr (some 2005))]) (w' := (SH, dt)) rfl ?_
  refine go_callq PM250 PM256 (Q' := _) rfl rfl rfl rfl (sp_J1_charAt_3b067_5f L xs sio (d + 0) dt hI  p1 (by first | exact h_p1 | exact bnd h_p1 (by decide) (by decide) | exact ⟨by fail, by fail⟩) ) ?_
  rintro _ _ ⟨rfl, h2⟩
  refine ⟨rfl, ?_⟩
  rcases h2 with ⟨v_h2, rfl, h2r, h2⟩
  refine go_retvq PM250 (v := v_h2) rfl (decide_eq_true (show 0 ≤ v_h2 ∧ v_h2 < 65536 by omega)) ?_
  exact ⟨rfl, ⟨_, rfl, ⟨by omega, by omega⟩, by first | exact True.intro | with_reducible assumption | rfl | fail | trivial⟩⟩
set_option maxRecDepth 20000 in
theorem sp_X6_is_5f (L : Nat) (xs : Nat → Int32) (sio : Option Nat) (d : Nat) (dt : Nat → Nat → Int) (hI : InvC dt)   (h_p0 : dt 79 13 ≤ 500) (h_p1 : dt 79 15 ≤ dt 79 13) (h_p2 : dt 79 13 ≤ dt 79 12) : GO (am_XX L xs sio) (d + 4) 156 0 [some (.inr (.inr (some 79))), some (.inr (.inr (some 1005))), none, none] [] (SH, dt) (fun r w2 => w2 = (SH, dt) ∧ ((∃ v : Int, r = some (.inl v) ∧ (0 ≤ v ∧ v ≤ 1) ∧ (v = wm (am_Sby.getD 5 []) (mB (dt 85) (dt 79 12)) (dt 79 15).toNat (dt 79 13).toNat)))) := by
  have r1 : 0 ≤ dt 79 13 ∧ dt 79 13 ≤ 501 := InvC_get hI 79 13 rfl rfl
  have r2 : 0 ≤ dt 79 15 ∧ dt 79 15 ≤ 500 := InvC_get hI 79 15 rfl rfl
  have r3 : 0 ≤ dt 79 12 ∧ dt 79 12 ≤ 500 := InvC_get hI 79 12 rfl rfl
  have hlen : (((am_Sby.getD 5 []).length : Nat) : Int) = 3 := rfl
  refine go_toq PM156 (k := 6) (pc' := 10) (L' := [some (.inr (.inr (some 79))), some (.inr (.inr (some 1005))), none, none]) (st' := [.inr (.inr (some 1005)), .inl ((dt 79 13) - (dt 79 15))]) (w' := (SH, dt)) rfl ?_
  refine go_callq PM156 PM249 (Q' := _) rfl rfl rfl rfl (sp_J0_length_8abf5_1005 L xs sio (d + 2) dt hI   ) ?_
  rintro _ _ ⟨rfl, h4⟩
  refine ⟨rfl, ?_⟩
  rcases h4 with ⟨rfl, h4⟩
  refine go_ifq PM156 (k := 0) (p1 := 20) (p2 := 16) (L' := [some (.inr (.inr (some 79))), some (.inr (.inr (some 1005))), none, none]) (st' := []) (w' := (SH, dt)) rfl (c_ne (a := (dt 79 13) - (dt 79 15)) (b := 3) ⟨by omega, by omega⟩ ⟨by decide, by decide⟩) (fun c5 => ?_) (fun c5 => ?_)
  · skip
    replace c5 := hid c5
    refine go_toq PM156 (k := 4) (pc' := 24) (L' := [some (.inr (.inr (some 79))), some (.inr (.inr (some 1005))), some (.inl 0), some (.inl 0)]) (st' := []) (w' := (SH, dt)) rfl ?_
    have loop18 : ∀ (k_ : Nat) (l24_2 : Int) (l24_3 : Int) (i13 : 0 ≤ l24_2 ∧ l24_2 ≤ 1) (i14 : 0 ≤ l24_3 ∧ l24_3 ≤ 3) (i15 : l24_2 = 1 → WQ (am_Sby.getD 5 []) (dt 79 13 - dt 79 15) (mB (dt 85) (dt 79 12)) (dt 79 15) l24_3) (i16 : l24_2 = 0 → wm (am_Sby.getD 5 []) (mB (dt 85) (dt 79 12)) (dt 79 15).toNat (dt 79 13).toNat = 0) (i17 : l24_2 = 0 ∨ dt 79 13 - dt 79 15 = 3), (4 - l24_3).toNat < k_ → GO (am_XX L xs sio) (d + 4) 156 24 [some (.inr (.inr (some 79))), some (.inr (.inr (some 1005))), some (.inl l24_2), some (.inl l24_3)] [] (SH, dt) (fun r w2 => w2 = (SH, dt) ∧ ((∃ v : Int, r = some (.inl v) ∧ (0 ≤ v ∧ v ≤ 1) ∧ (v = wm (am_Sby.getD 5 []) (mB (dt 85) (dt 79 12)) (dt 79 15).toNat (dt 79 13).toNat)))) := by
      intro k_
      induction k_ with
      | zero => intro l24_2 l24_3 i13 i14 i15 i16 i17 hm; exact absurd hm (Nat.not_lt_zero _)
      | succ k_ ih_loop18 =>
        intro l24_2 l24_3 i13 i14 i15 i16 i17 hm
        replace i15 := hid i15
        replace i16 := hid i16
        replace i17 := hid i17
        have q1 := i15
        have q2 := i16
        refine go_toq PM156 (k := 2) (pc' := 26) (L' := [some (.inr (.inr (some 79))), some (.inr (.inr (some 1005))), some (.inl l24_2), some (.inl l24_3)]) (st' := [.inr (.inr (some 1005)), .inl l24_3]) (w' := (SH, dt)) rfl ?_
        refine go_callq PM156 PM249 (Q' := _) rfl rfl rfl rfl (sp_J0_length_8abf5_1005 L xs sio (d + 2) dt hI   ) ?_
        rintro _ _ ⟨rfl, h19⟩
        refine ⟨rfl, ?_⟩
        rcases h19 with ⟨rfl, h19⟩
        refine go_ifq PM156 (k := 0) (p1 := 67) (p2 := 32) (L' := [some (.inr (.inr (some 79))), some (.inr (.inr (some 1005))), some (.inl l24_2), some (.inl l24_3)]) (st' := []) (w' := (SH, dt)) rfl (c_ge (a := l24_3) (b := 3) (by first | exact bnd i14 (by decide) (by decide) | exact ⟨by fail, by fail⟩) ⟨by decide, by decide⟩) (fun c20 => ?_) (fun c20 => ?_)
        · skip
          refine go_toq PM156 (k := 1) (pc' := 68) (L' := [some (.inr (.inr (some 79))), some (.inr (.inr (some 1005))), some (.inl l24_2), some (.inl l24_3)]) (st' := [.inl l24_2]) (w' := (SH, dt)) rfl ?_
          refine go_retvq PM156 (v := l24_2) rfl (decide_eq_true (show l24_2 = 0 ∨ l24_2 = 1 by omega)) ?_
          exact ⟨rfl, ⟨_, rfl, ⟨by omega, by omega⟩, by rcases (show l24_2 = 0 ∨ l24_2 = 1 by omega) with z | z <;> first | (rw [q2 z]; exact z) | (rw [WM_1 (q1 z) ⟨by omega, by omega⟩ (by omega)]; exact z)⟩⟩
        · skip
          refine go_ifq PM156 (k := 1) (p1 := 67) (p2 := 36) (L' := [some (.inr (.inr (some 79))), some (.inr (.inr (some 1005))), some (.inl l24_2), some (.inl l24_3)]) (st' := []) (w' := (SH, dt)) rfl (z_eq (a := l24_2) (by first | exact bnd i13 (by decide) (by decide) | exact ⟨by fail, by fail⟩)) (fun c21 => ?_) (fun c21 => ?_)
          · skip
            refine go_toq PM156 (k := 1) (pc' := 68) (L' := [some (.inr (.inr (some 79))), some (.inr (.inr (some 1005))), some (.inl l24_2), some (.inl l24_3)]) (st' := [.inl l24_2]) (w' := (SH, dt)) rfl ?_
            refine go_retvq PM156 (v := l24_2) rfl (decide_eq_true (show l24_2 = 0 ∨ l24_2 = 1 by omega)) ?_
            exact ⟨rfl, ⟨_, rfl, ⟨by omega, by omega⟩, by rcases (show l24_2 = 0 ∨ l24_2 = 1 by omega) with z | z <;> first | (rw [q2 z]; exact z) | (rw [WM_1 (q1 z) ⟨by omega, by omega⟩ (by omega)]; exact z)⟩⟩
          · skip
            replace c21 := hid c21
            refine go_toq PM156 (k := 6) (pc' := 46) (L' := [some (.inr (.inr (some 79))), some (.inr (.inr (some 1005))), some (.inl l24_2), some (.inl l24_3)]) (st' := [.inl ((dt 79 15) + l24_3), .inr (.inr (some 85))]) (w' := (SH, dt)) rfl ?_
            have r22 : 0 ≤ dt 85 (((dt 79 15) + l24_3).toNat) ∧ dt 85 (((dt 79 15) + l24_3).toNat) ≤ 255 := InvC_get hI 85 (((dt 79 15) + l24_3).toNat) rfl rfl
            have u7_ := hid (And.intro (unhid c5) (And.intro (unhid i16) (And.intro (unhid i17) (unhid c21))))
            refine go_smpq PM156 (L' := [some (.inr (.inr (some 79))), some (.inr (.inr (some 1005))), some (.inl l24_2), some (.inl l24_3)]) (st' := [.inl (dt 85 (((dt 79 15) + l24_3).toNat))]) (w' := (SH, dt)) rfl rfl (s_iald (n := 500) (f := dt 85) rfl ⟨by omega, by (have z_ := unhid u7_; omega)⟩) ?_
            refine go_toq PM156 (k := 2) (pc' := 49) (L' := [some (.inr (.inr (some 79))), some (.inr (.inr (some 1005))), some (.inl l24_2), some (.inl l24_3)]) (st' := [.inl l24_3, .inr (.inr (some 1005)), .inl (dt 85 (((dt 79 15) + l24_3).toNat))]) (w' := (SH, dt)) rfl ?_
            refine go_callq PM156 PM250 (Q' := _) rfl rfl rfl rfl (sp_J0_charAt_5068e_5f L xs sio (d + 0) dt hI  l24_3 (by first | exact bnd i14 (by decide) (by decide) | exact bndd i14 c20 (by decide) (by decide) | exact ⟨by fail, by fail⟩) ) ?_
            rintro _ _ ⟨rfl, h23⟩
            refine ⟨rfl, ?_⟩
            rcases h23 with ⟨v_h23, rfl, h23r, h23⟩
            refine go_ifq PM156 (k := 0) (p1 := 59) (p2 := 55) (L' := [some (.inr (.inr (some 79))), some (.inr (.inr (some 1005))), some (.inl l24_2), some (.inl l24_3)]) (st' := []) (w' := (SH, dt)) rfl (c_ne (a := dt 85 (((dt 79 15) + l24_3).toNat)) (b := v_h23) (by first | exact bnd r22 (by decide) (by decide) | exact ⟨by fail, by fail⟩) (by first | exact bnd h23r (by decide) (by decide) | exact ⟨by fail, by fail⟩)) (fun c24 => ?_) (fun c24 => ?_)
            · skip
              replace c24 := hid c24
              refine go_toq PM156 (k := 4) (pc' := 24) (L' := [some (.inr (.inr (some 79))), some (.inr (.inr (some 1005))), some (.inl 0), some (.inl (l24_3 + 1))]) (st' := []) (w' := (SH, dt)) rfl ?_
              have u8_ := hid (And.intro (unhid c5) (And.intro (unhid i16) (And.intro (unhid i17) (And.intro (unhid c21) (unhid c24)))))
              exact GO.le (ih_loop18 0 (l24_3 + 1) (by first | omega | (intro z; first | fail | exact WQ_0 (by fail) (by fail) | exact WM_a ⟨by fail, by fail⟩ (by fail) | exact WQ_s (q1 (by fail)) ⟨by fail, by fail⟩ (mB_in (by fail) (by fail)).symm h23 (by fail) | exact WM_b ⟨by fail, by fail⟩ (by fail) (mB_in (by fail) (by fail)).symm h23 (by fail))) (by first | omega | (intro z; first | fail | exact WQ_0 (by fail) (by fail) | exact WM_a ⟨by fail, by fail⟩ (by fail) | exact WQ_s (q1 (by fail)) ⟨by fail, by fail⟩ (mB_in (by fail) (by fail)).symm h23 (by fail) | exact WM_b ⟨by fail, by fail⟩ (by fail) (mB_in (by fail) (by fail)).symm h23 (by fail))) (by first | omega | (intro z; first | fail | exact WQ_0 (by fail) (by fail) | exact WM_a ⟨by fail, by fail⟩ (by fail) | exact WQ_s (q1 (by fail)) ⟨by fail, by fail⟩ (mB_in (by fail) (by fail)).symm h23 (by fail) | exact WM_b ⟨by fail, by fail⟩ (by fail) (mB_in (by fail) (by fail)).symm h23 (by fail))) (by first | (have z_ := unhid u8_; omega) | (intro z; first | fail | exact WQ_0 (by fail) (by fail) | exact WM_a ⟨by fail, by fail⟩ (by fail) | exact WQ_s (q1 (by fail)) ⟨by fail, by fail⟩ (mB_in (by fail) (by fail)).symm h23 (by fail) | exact WM_b ⟨by fail, by fail⟩ (by fail) (mB_in (by fail) (by fail)).symm h23 (by fail))) (by first | omega | (intro z; first | fail | exact WQ_0 (by fail) (by fail) | exact WM_a ⟨by fail, by fail⟩ (by fail) | exact WQ_s (q1 (by fail)) ⟨by fail, by fail⟩ (mB_in (by fail) (by fail)).symm h23 (by fail) | exact WM_b ⟨by fail, by fail⟩ (by fail) (mB_in (by fail) (by fail)).symm h23 (by fail))) (by omega)) ⟨.inl rfl, .inl rfl, .inl rfl, .inl rfl, trivial⟩
            · skip
              refine go_toq PM156 (k := 5) (pc' := 24) (L' := [some (.inr (.inr (some 79))), some (.inr (.inr (some 1005))), some (.inl 1), some (.inl (l24_3 + 1))]) (st' := []) (w' := (SH, dt)) rfl ?_
              exact GO.le (ih_loop18 1 (l24_3 + 1) (by first | omega | (intro z; first | fail | exact WQ_0 (by fail) (by fail) | exact WM_a ⟨by fail, by fail⟩ (by fail) | exact WQ_s (q1 (by fail)) ⟨by fail, by fail⟩ (mB_in (by fail) (by fail)).symm h23 (by fail) | exact WM_b ⟨by fail, by fail⟩ (by fail) (mB_in (by fail) (by fail)).symm h23 (by fail))) (by first | omega | (intro z; first | fail | exact WQ_0 (by fail) (by fail) | exact WM_a ⟨by fail, by fail⟩ (by fail) | exact WQ_s (q1 (by fail)) ⟨by fail, by fail⟩ (mB_in (by fail) (by fail)).symm h23 (by fail) | exact WM_b ⟨by fail, by fail⟩ (by fail) (mB_in (by fail) (by fail)).symm h23 (by fail))) (by first | (have z_ := unhid u7_; omega) | (intro z; first | fail | exact WQ_0 (by fail) (by fail) | exact WM_a ⟨by fail, by fail⟩ (by fail) | exact WQ_s (q1 (by fail)) ⟨by fail, by fail⟩ (mB_in (by fail) (by fail)).symm h23 (by fail) | exact WM_b ⟨by fail, by fail⟩ (by fail) (mB_in (by fail) (by fail)).symm h23 (by fail))) (by first | omega | (intro z; first | fail | exact WQ_0 (by fail) (by fail) | exact WM_a ⟨by fail, by fail⟩ (by fail) | exact WQ_s (q1 (by fail)) ⟨by fail, by fail⟩ (mB_in (by fail) (by fail)).symm h23 (by fail) | exact WM_b ⟨by fail, by fail⟩ (by fail) (mB_in (by fail) (by fail)).symm h23 (by fail))) (by first | (have z_ := unhid u7_; omega) | (intro z; first | fail | exact WQ_0 (by fail) (by fail) | exact WM_a ⟨by fail, by fail⟩ (by fail) | exact WQ_s (q1 (by fail)) ⟨by fail, by fail⟩ (mB_in (by fail) (by fail)).symm h23 (by fail) | exact WM_b ⟨by fail, by fail⟩ (by fail) (mB_in (by fail) (by fail)).symm h23 (by fail))) (by omega)) ⟨.inl rfl, .inl rfl, .inl rfl, .inl rfl, trivial⟩
    exact GO.le (loop18 _ 0 0 (by first | omega | (intro z; first | fail | exact WQ_0 (by fail) (by fail) | exact WM_a ⟨by fail, by fail⟩ (by fail) | exact WQ_s (q1 (by fail)) ⟨by fail, by fail⟩ (mB_in (by fail) (by fail)).symm hI (by fail) | exact WM_b ⟨by fail, by fail⟩ (by fail) (mB_in (by fail) (by fail)).symm hI (by fail))) (by first | omega | (intro z; first | fail | exact WQ_0 (by fail) (by fail) | exact WM_a ⟨by fail, by fail⟩ (by fail) | exact WQ_s (q1 (by fail)) ⟨by fail, by fail⟩ (mB_in (by fail) (by fail)).symm hI (by fail) | exact WM_b ⟨by fail, by fail⟩ (by fail) (mB_in (by fail) (by fail)).symm hI (by fail))) (by first | omega | (intro z; first | fail | exact WQ_0 (by fail) (by fail) | exact WM_a ⟨by fail, by fail⟩ (by fail) | exact WQ_s (q1 (by fail)) ⟨by fail, by fail⟩ (mB_in (by fail) (by fail)).symm hI (by fail) | exact WM_b ⟨by fail, by fail⟩ (by fail) (mB_in (by fail) (by fail)).symm hI (by fail))) (by first | fail | (intro z; first | fail | exact WQ_0 (by fail) (by fail) | exact WM_a ⟨by omega, by omega⟩ (by (have z0_ := unhid c5; omega)) | exact WQ_s (q1 (by fail)) ⟨by fail, by fail⟩ (mB_in (by fail) (by fail)).symm hI (by fail) | exact WM_b ⟨by fail, by fail⟩ (by fail) (mB_in (by fail) (by fail)).symm hI (by fail))) (by first | omega | (intro z; first | fail | exact WQ_0 (by fail) (by fail) | exact WM_a ⟨by fail, by fail⟩ (by fail) | exact WQ_s (q1 (by fail)) ⟨by fail, by fail⟩ (mB_in (by fail) (by fail)).symm hI (by fail) | exact WM_b ⟨by fail, by fail⟩ (by fail) (mB_in (by fail) (by fail)).symm hI (by fail))) (Nat.lt_succ_self _)) ⟨.inl rfl, .inl rfl, .inl rfl, .inl rfl, trivial⟩
  · skip
    refine go_toq PM156 (k := 5) (pc' := 24) (L' := [some (.inr (.inr (some 79))), some (.inr (.inr (some 1005))), some (.inl 1), some (.inl 0)]) (st' := []) (w' := (SH, dt)) rfl ?_
    have loop37 : ∀ (k_ : Nat) (l24_2 : Int) (l24_3 : Int) (i32 : 0 ≤ l24_2 ∧ l24_2 ≤ 1) (i33 : 0 ≤ l24_3 ∧ l24_3 ≤ 3) (i34 : l24_2 = 1 → WQ (am_Sby.getD 5 []) (dt 79 13 - dt 79 15) (mB (dt 85) (dt 79 12)) (dt 79 15) l24_3) (i35 : l24_2 = 0 → wm (am_Sby.getD 5 []) (mB (dt 85) (dt 79 12)) (dt 79 15).toNat (dt 79 13).toNat = 0) (i36 : l24_2 = 0 ∨ dt 79 13 - dt 79 15 = 3), (4 - l24_3).toNat < k_ → GO (am_XX L xs sio) (d + 4) 156 24 [some (.inr (.inr (some 79))), some (.inr (.inr (some 1005))), some (.inl l24_2), some (.inl l24_3)] [] (SH, dt) (fun r w2 => w2 = (SH, dt) ∧ ((∃ v : Int, r = some (.inl v) ∧ (0 ≤ v ∧ v ≤ 1) ∧ (v = wm (am_Sby.getD 5 []) (mB (dt 85) (dt 79 12)) (dt 79 15).toNat (dt 79 13).toNat)))) := by
      intro k_
      induction k_ with
      | zero => intro l24_2 l24_3 i32 i33 i34 i35 i36 hm; exact absurd hm (Nat.not_lt_zero _)
      | succ k_ ih_loop37 =>
        intro l24_2 l24_3 i32 i33 i34 i35 i36 hm
        replace i34 := hid i34
        replace i35 := hid i35
        replace i36 := hid i36
        have q1 := i34
        have q2 := i35
        refine go_toq PM156 (k := 2) (pc' := 26) (L' := [some (.inr (.inr (some 79))), some (.inr (.inr (some 1005))), some (.inl l24_2), some (.inl l24_3)]) (st' := [.inr (.inr (some 1005)), .inl l24_3]) (w' := (SH, dt)) rfl ?_
        refine go_callq PM156 PM249 (Q' := _) rfl rfl rfl rfl (sp_J0_length_8abf5_1005 L xs sio (d + 2) dt hI   ) ?_
        rintro _ _ ⟨rfl, h38⟩
        refine ⟨rfl, ?_⟩
        rcases h38 with ⟨rfl, h38⟩
        refine go_ifq PM156 (k := 0) (p1 := 67) (p2 := 32) (L' := [some (.inr (.inr (some 79))), some (.inr (.inr (some 1005))), some (.inl l24_2), some (.inl l24_3)]) (st' := []) (w' := (SH, dt)) rfl (c_ge (a := l24_3) (b := 3) (by first | exact bnd i33 (by decide) (by decide) | exact ⟨by fail, by fail⟩) ⟨by decide, by decide⟩) (fun c39 => ?_) (fun c39 => ?_)
        · skip
          refine go_toq PM156 (k := 1) (pc' := 68) (L' := [some (.inr (.inr (some 79))), some (.inr (.inr (some 1005))), some (.inl l24_2), some (.inl l24_3)]) (st' := [.inl l24_2]) (w' := (SH, dt)) rfl ?_
          refine go_retvq PM156 (v := l24_2) rfl (decide_eq_true (show l24_2 = 0 ∨ l24_2 = 1 by omega)) ?_
          exact ⟨rfl, ⟨_, rfl, ⟨by omega, by omega⟩, by rcases (show l24_2 = 0 ∨ l24_2 = 1 by omega) with z | z <;> first | (rw [q2 z]; exact z) | (rw [WM_1 (q1 z) ⟨by omega, by omega⟩ (by omega)]; exact z)⟩⟩
        · skip
          refine go_ifq PM156 (k := 1) (p1 := 67) (p2 := 36) (L' := [some (.inr (.inr (some 79))), some (.inr (.inr (some 1005))), some (.inl l24_2), some (.inl l24_3)]) (st' := []) (w' := (SH, dt)) rfl (z_eq (a := l24_2) (by first | exact bnd i32 (by decide) (by decide) | exact ⟨by fail, by fail⟩)) (fun c40 => ?_) (fun c40 => ?_)
          · skip
            refine go_toq PM156 (k := 1) (pc' := 68) (L' := [some (.inr (.inr (some 79))), some (.inr (.inr (some 1005))), some (.inl l24_2), some (.inl l24_3)]) (st' := [.inl l24_2]) (w' := (SH, dt)) rfl ?_
            refine go_retvq PM156 (v := l24_2) rfl (decide_eq_true (show l24_2 = 0 ∨ l24_2 = 1 by omega)) ?_
            exact ⟨rfl, ⟨_, rfl, ⟨by omega, by omega⟩, by rcases (show l24_2 = 0 ∨ l24_2 = 1 by omega) with z | z <;> first | (rw [q2 z]; exact z) | (rw [WM_1 (q1 z) ⟨by omega, by omega⟩ (by omega)]; exact z)⟩⟩
          · skip
            replace c40 := hid c40
            refine go_toq PM156 (k := 6) (pc' := 46) (L' := [some (.inr (.inr (some 79))), some (.inr (.inr (some 1005))), some (.inl l24_2), some (.inl l24_3)]) (st' := [.inl ((dt 79 15) + l24_3), .inr (.inr (some 85))]) (w' := (SH, dt)) rfl ?_
            have r41 : 0 ≤ dt 85 (((dt 79 15) + l24_3).toNat) ∧ dt 85 (((dt 79 15) + l24_3).toNat) ≤ 255 := InvC_get hI 85 (((dt 79 15) + l24_3).toNat) rfl rfl
            refine go_smpq PM156 (L' := [some (.inr (.inr (some 79))), some (.inr (.inr (some 1005))), some (.inl l24_2), some (.inl l24_3)]) (st' := [.inl (dt 85 (((dt 79 15) + l24_3).toNat))]) (w' := (SH, dt)) rfl rfl (s_iald (n := 500) (f := dt 85) rfl ⟨by omega, by omega⟩) ?_
            refine go_toq PM156 (k := 2) (pc' := 49) (L' := [some (.inr (.inr (some 79))), some (.inr (.inr (some 1005))), some (.inl l24_2), some (.inl l24_3)]) (st' := [.inl l24_3, .inr (.inr (some 1005)), .inl (dt 85 (((dt 79 15) + l24_3).toNat))]) (w' := (SH, dt)) rfl ?_
            refine go_callq PM156 PM250 (Q' := _) rfl rfl rfl rfl (sp_J0_charAt_5068e_5f L xs sio (d + 0) dt hI  l24_3 (by first | exact bnd i33 (by decide) (by decide) | exact bndd i33 c39 (by decide) (by decide) | exact ⟨by fail, by fail⟩) ) ?_
            rintro _ _ ⟨rfl, h42⟩
            refine ⟨rfl, ?_⟩
            rcases h42 with ⟨v_h42, rfl, h42r, h42⟩
            refine go_ifq PM156 (k := 0) (p1 := 59) (p2 := 55) (L' := [some (.inr (.inr (some 79))), some (.inr (.inr (some 1005))), some (.inl l24_2), some (.inl l24_3)]) (st' := []) (w' := (SH, dt)) rfl (c_ne (a := dt 85 (((dt 79 15) + l24_3).toNat)) (b := v_h42) (by first | exact bnd r41 (by decide) (by decide) | exact ⟨by fail, by fail⟩) (by first | exact bnd h42r (by decide) (by decide) | exact ⟨by fail, by fail⟩)) (fun c43 => ?_) (fun c43 => ?_)
            · skip
              replace c43 := hid c43
              refine go_toq PM156 (k := 4) (pc' := 24) (L' := [some (.inr (.inr (some 79))), some (.inr (.inr (some 1005))), some (.inl 0), some (.inl (l24_3 + 1))]) (st' := []) (w' := (SH, dt)) rfl ?_
              have u9_ := hid (And.intro (unhid i35) (And.intro (unhid i36) (And.intro (unhid c40) (unhid c43))))
              exact GO.le (ih_loop37 0 (l24_3 + 1) (by first | omega | (intro z; first | fail | exact WQ_0 (by fail) (by fail) | exact WM_a ⟨by fail, by fail⟩ (by fail) | exact WQ_s (q1 (by fail)) ⟨by fail, by fail⟩ (mB_in (by fail) (by fail)).symm h42 (by fail) | exact WM_b ⟨by fail, by fail⟩ (by fail) (mB_in (by fail) (by fail)).symm h42 (by fail))) (by first | omega | (intro z; first | fail | exact WQ_0 (by fail) (by fail) | exact WM_a ⟨by fail, by fail⟩ (by fail) | exact WQ_s (q1 (by fail)) ⟨by fail, by fail⟩ (mB_in (by fail) (by fail)).symm h42 (by fail) | exact WM_b ⟨by fail, by fail⟩ (by fail) (mB_in (by fail) (by fail)).symm h42 (by fail))) (by first | omega | (intro z; first | fail | exact WQ_0 (by fail) (by fail) | exact WM_a ⟨by fail, by fail⟩ (by fail) | exact WQ_s (q1 (by fail)) ⟨by fail, by fail⟩ (mB_in (by fail) (by fail)).symm h42 (by fail) | exact WM_b ⟨by fail, by fail⟩ (by fail) (mB_in (by fail) (by fail)).symm h42 (by fail))) (by first | fail | (intro z; first | fail | exact WQ_0 (by fail) (by fail) | exact WM_a ⟨by omega, by omega⟩ (by fail) | exact WQ_s (q1 (by (have z_ := unhid u9_; omega))) ⟨by omega, by omega⟩ (mB_in (by omega) (by omega)).symm h42 (by fail) | exact WM_b ⟨by omega, by omega⟩ (by omega) (mB_in (by omega) (by omega)).symm h42 (by (have z_ := unhid u9_; omega)))) (by first | omega | (intro z; first | fail | exact WQ_0 (by fail) (by fail) | exact WM_a ⟨by fail, by fail⟩ (by fail) | exact WQ_s (q1 (by fail)) ⟨by fail, by fail⟩ (mB_in (by fail) (by fail)).symm h42 (by fail) | exact WM_b ⟨by fail, by fail⟩ (by fail) (mB_in (by fail) (by fail)).symm h42 (by fail))) (by omega)) ⟨.inl rfl, .inl rfl, .inl rfl, .inl rfl, trivial⟩
            · skip
              refine go_toq PM156 (k := 5) (pc' := 24) (L' := [some (.inr (.inr (some 79))), some (.inr (.inr (some 1005))), some (.inl 1), some (.inl (l24_3 + 1))]) (st' := []) (w' := (SH, dt)) rfl ?_
              exact GO.le (ih_loop37 1 (l24_3 + 1) (by first | omega | (intro z; first | fail | exact WQ_0 (by fail) (by fail) | exact WM_a ⟨by fail, by fail⟩ (by fail) | exact WQ_s (q1 (by fail)) ⟨by fail, by fail⟩ (mB_in (by fail) (by fail)).symm h42 (by fail) | exact WM_b ⟨by fail, by fail⟩ (by fail) (mB_in (by fail) (by fail)).symm h42 (by fail))) (by first | omega | (intro z; first | fail | exact WQ_0 (by fail) (by fail) | exact WM_a ⟨by fail, by fail⟩ (by fail) | exact WQ_s (q1 (by fail)) ⟨by fail, by fail⟩ (mB_in (by fail) (by fail)).symm h42 (by fail) | exact WM_b ⟨by fail, by fail⟩ (by fail) (mB_in (by fail) (by fail)).symm h42 (by fail))) (by first | fail | (intro z; first | fail | exact WQ_0 (by omega) (by fail) | exact WM_a ⟨by fail, by fail⟩ (by fail) | exact WQ_s (q1 (by (have z0_ := unhid i35; have z1_ := unhid i36; have z2_ := unhid c40; omega))) ⟨by omega, by omega⟩ (mB_in (by omega) (by omega)).symm h42 (by omega) | exact WM_b ⟨by fail, by fail⟩ (by fail) (mB_in (by fail) (by fail)).symm h42 (by fail))) (by first | omega | (intro z; first | fail | exact WQ_0 (by fail) (by fail) | exact WM_a ⟨by fail, by fail⟩ (by fail) | exact WQ_s (q1 (by fail)) ⟨by fail, by fail⟩ (mB_in (by fail) (by fail)).symm h42 (by fail) | exact WM_b ⟨by fail, by fail⟩ (by fail) (mB_in (by fail) (by fail)).symm h42 (by fail))) (by first | omega | (intro z; first | fail | exact WQ_0 (by fail) (by fail) | exact WM_a ⟨by fail, by fail⟩ (by fail) | exact WQ_s (q1 (by fail)) ⟨by fail, by fail⟩ (mB_in (by fail) (by fail)).symm h42 (by fail) | exact WM_b ⟨by fail, by fail⟩ (by fail) (mB_in (by fail) (by fail)).symm h42 (by fail))) (by omega)) ⟨.inl rfl, .inl rfl, .inl rfl, .inl rfl, trivial⟩
    exact GO.le (loop37 _ 1 0 (by first | omega | (intro z; first | fail | exact WQ_0 (by fail) (by fail) | exact WM_a ⟨by fail, by fail⟩ (by fail) | exact WQ_s (q1 (by fail)) ⟨by fail, by fail⟩ (mB_in (by fail) (by fail)).symm hI (by fail) | exact WM_b ⟨by fail, by fail⟩ (by fail) (mB_in (by fail) (by fail)).symm hI (by fail))) (by first | omega | (intro z; first | fail | exact WQ_0 (by fail) (by fail) | exact WM_a ⟨by fail, by fail⟩ (by fail) | exact WQ_s (q1 (by fail)) ⟨by fail, by fail⟩ (mB_in (by fail) (by fail)).symm hI (by fail) | exact WM_b ⟨by fail, by fail⟩ (by fail) (mB_in (by fail) (by fail)).symm hI (by fail))) (by first | fail | (intro z; first | fail | exact WQ_0 (by omega) (by omega) | exact WM_a ⟨by fail, by fail⟩ (by fail) | exact WQ_s (q1 (by fail)) ⟨by fail, by fail⟩ (mB_in (by fail) (by fail)).symm hI (by fail) | exact WM_b ⟨by fail, by fail⟩ (by fail) (mB_in (by fail) (by fail)).symm hI (by fail))) (by first | omega | (intro z; first | fail | exact WQ_0 (by fail) (by fail) | exact WM_a ⟨by fail, by fail⟩ (by fail) | exact WQ_s (q1 (by fail)) ⟨by fail, by fail⟩ (mB_in (by fail) (by fail)).symm hI (by fail) | exact WM_b ⟨by fail, by fail⟩ (by fail) (mB_in (by fail) (by fail)).symm hI (by fail))) (by first | omega | (intro z; first | fail | exact WQ_0 (by fail) (by fail) | exact WM_a ⟨by fail, by fail⟩ (by fail) | exact WQ_s (q1 (by fail)) ⟨by fail, by fail⟩ (mB_in (by fail) (by fail)).symm hI (by fail) | exact WM_b ⟨by fail, by fail⟩ (by fail) (mB_in (by fail) (by fail)).symm hI (by fail))) (Nat.lt_succ_self _)) ⟨.inl rfl, .inl rfl, .inl rfl, .inl rfl, trivial⟩
theorem sp_J1_charAt_3b067_6f (L : Nat) (xs : Nat → Int32) (sio : Option Nat) (d : Nat) (dt : Nat → Nat → Int) (hI : InvC dt)  (p2 : Int) (h_p2 : 0 ≤ p2 ∧ p2 ≤ 3)  : GO (am_XX L xs sio) (d + 2) 256 0 [some (.inr (.inr (some 2006))), some (.inl p2)] [] (SH, dt) (fun r w2 => w2 = (SH, dt) ∧ ((∃ v : Int, r = some (.inl v) ∧ (0 ≤ v ∧ v ≤ 65535) ∧ (v = (am_Sby.getD 6 []).getD p2.toNat 0)))) := by
  refine go_toq PM256 (k := 3) (pc' := 3) (L' := [some (.inr (.inr (some 2006))), some (.inl p2)]) (st' := [.inl 4, .inl p2]) (w' := (SH, dt)) rfl ?_
  refine go_callq PM256 PM255 (Q' := _) rfl rfl rfl rfl (sp_J0_checkIndex_df160 L xs sio (d + 0) dt hI  p2 (by first | exact h_p2 | exact bnd h_p2 (by decide) (by decide) | exact ⟨by fail, by fail⟩) 4 ⟨by decide, by decide⟩ (by first | exact True.intro | with_reducible assumption | rfl | omega | trivial)) ?_
  rintro _ _ ⟨rfl, h1⟩
  refine ⟨rfl, ?_⟩
  rcases h1 with ⟨rfl, h1⟩
  refine go_toq PM256 (k := 2) (pc' := 8) (L' := [some (.inr (.inr (some 2006))), some (.inl p2)]) (st' := [.inl p2, .inr (.inr (some 2006))]) (w' := (SH, dt)) rfl ?_
  have r2 := sby_R 6 (p2).toNat
  refine go_smpq PM256 (L' := [some (.inr (.inr (some 2006))), some (.inl p2)]) (st' := [.inl ((am_Sby.getD 6 []).getD (p2).toNat 0)]) (w' := (SH, dt)) rfl rfl (s_bald (n := 4) (f := fun q => (am_Sby.getD 6 []).getD q 0) rfl (by first | exact bndx h_p2 (by decide) (by decide) | exact ⟨by fail, by fail⟩)) ?_
  have r3 : 0 ≤ am_and ((am_Sby.getD 6 []).getD (p2).toNat 0) 255 ∧ am_and ((am_Sby.getD 6 []).getD (p2).toNat 0) 255 ≤ 255 := and_R255
  have r4 := i2c_R (am_and ((am_Sby.getD 6 []).getD (p2).toNat 0) 255)
  refine go_toq PM256 (k := 3) (pc' := 14) (L' := [some (.inr (.inr (some 2006))), some (.inl p2)]) (st' := [.inl (am_i2c (am_and ((am_Sby.getD 6 []).getD (p2).toNat 0) 255))]) (w' := (SH, dt)) rfl ?_
  refine go_retvq PM256 (v := am_i2c (am_and ((am_Sby.getD 6 []).getD (p2).toNat 0) 255)) rfl (decide_eq_true (show 0 ≤ am_i2c (am_and ((am_Sby.getD 6 []).getD (p2).toNat 0) 255) ∧ am_i2c (am_and ((am_Sby.getD 6 []).getD (p2).toNat 0) 255) < 65536 by omega)) ?_
  exact ⟨rfl, ⟨_, rfl, ⟨by omega, by omega⟩, by exact ic_id ⟨by omega, by omega⟩⟩⟩
theorem sp_J0_charAt_5068e_6f (L : Nat) (xs : Nat → Int32) (sio : Option Nat) (d : Nat) (dt : Nat → Nat → Int) (hI : InvC dt)  (p1 : Int) (h_p1 : 0 ≤ p1 ∧ p1 ≤ 3)  : GO (am_XX L xs sio) (d + 3) 250 0 [some (.inr (.inr (some 1006))), some (.inl p1)] [] (SH, dt) (fun r w2 => w2 = (SH, dt) ∧ ((∃ v : Int, r = some (.inl v) ∧ (0 ≤ v ∧ v ≤ 65535) ∧ (v = (am_Sby.getD 6 []).getD p1.toNat 0)))) := by
  refine go_toq PM250 (k := 1) (pc' := 1) (L' := [some (.inr (.inr (some 1006))), some (.inl p1)]) (st' := [.inr (.inr (some 1006))]) (w' := (SH, dt)) rfl ?_
  refine go_callq PM250 PM254 (Q' := _) rfl rfl rfl rfl (sp_J0_isLatin1_aae02_1006 L xs sio (d + 2) dt hI   ) ?_
  rintro _ _ ⟨rfl, h1⟩
  refine ⟨rfl, ?_⟩
  rcases h1 with ⟨rfl, h1⟩
  refine go_toq PM250 (k := 4) (pc' := 12) (L' := [some (.inr (.inr (some 1006))), some (.inl p1)]) (st' := [.inl p1, .inr (.inr (some 2006))]) (w' := (SH, dt)) rfl ?_
  refine go_callq PM250 PM256 (Q' := _) rfl rfl rfl rfl (sp_J1_charAt_3b067_6f L xs sio (d + 0) dt hI  p1 (by first | exact h_p1 | exact bnd h_p1 (by decide) (by decide) | exact ⟨by fail, by fail⟩) ) ?_
  rintro _ _ ⟨rfl, h2⟩
  refine ⟨rfl, ?_⟩
  rcases h2 with ⟨v_h2, rfl, h2r, h2⟩
  refine go_retvq PM250 (v := v_h2) rfl (decide_eq_true (show 0 ≤ v_h2 ∧ v_h2 < 65536 by omega)) ?_
  exact ⟨rfl, ⟨_, rfl, ⟨by omega, by omega⟩, by first | exact True.intro | with_reducible assumption | rfl | fail | trivial⟩⟩
set_option maxRecDepth 20000 in
theorem sp_X6_is_6f (L : Nat) (xs : Nat → Int32) (sio : Option Nat) (d : Nat) (dt : Nat → Nat → Int) (hI : InvC dt)   (h_p0 : dt 79 13 ≤ 500) (h_p1 : dt 79 15 ≤ dt 79 13) (h_p2 : dt 79 13 ≤ dt 79 12) : GO (am_XX L xs sio) (d + 4) 156 0 [some (.inr (.inr (some 79))), some (.inr (.inr (some 1006))), none, none] [] (SH, dt) (fun r w2 => w2 = (SH, dt) ∧ ((∃ v : Int, r = some (.inl v) ∧ (0 ≤ v ∧ v ≤ 1) ∧ (v = wm (am_Sby.getD 6 []) (mB (dt 85) (dt 79 12)) (dt 79 15).toNat (dt 79 13).toNat)))) := by
  have r1 : 0 ≤ dt 79 13 ∧ dt 79 13 ≤ 501 := InvC_get hI 79 13 rfl rfl
  have r2 : 0 ≤ dt 79 15 ∧ dt 79 15 ≤ 500 := InvC_get hI 79 15 rfl rfl
  have r3 : 0 ≤ dt 79 12 ∧ dt 79 12 ≤ 500 := InvC_get hI 79 12 rfl rfl
  have hlen : (((am_Sby.getD 6 []).length : Nat) : Int) = 4 := rfl
  refine go_toq PM156 (k := 6) (pc' := 10) (L' := [some (.inr (.inr (some 79))), some (.inr (.inr (some 1006))), none, none]) (st' := [.inr (.inr (some 1006)), .inl ((dt 79 13) - (dt 79 15))]) (w' := (SH, dt)) rfl ?_
  refine go_callq PM156 PM249 (Q' := _) rfl rfl rfl rfl (sp_J0_length_8abf5_1006 L xs sio (d + 2) dt hI   ) ?_
  rintro _ _ ⟨rfl, h4⟩
  refine ⟨rfl, ?_⟩
  rcases h4 with ⟨rfl, h4⟩
  refine go_ifq PM156 (k := 0) (p1 := 20) (p2 := 16) (L' := [some (.inr (.inr (some 79))), some (.inr (.inr (some 1006))), none, none]) (st' := []) (w' := (SH, dt)) rfl (c_ne (a := (dt 79 13) - (dt 79 15)) (b := 4) ⟨by omega, by omega⟩ ⟨by decide, by decide⟩) (fun c5 => ?_) (fun c5 => ?_)
  · skip
    replace c5 := hid c5
    refine go_toq PM156 (k := 4) (pc' := 24) (L' := [some (.inr (.inr (some 79))), some (.inr (.inr (some 1006))), some (.inl 0), some (.inl 0)]) (st' := []) (w' := (SH, dt)) rfl ?_
    have loop18 : ∀ (k_ : Nat) (l24_2 : Int) (l24_3 : Int) (i13 : 0 ≤ l24_2 ∧ l24_2 ≤ 1) (i14 : 0 ≤ l24_3 ∧ l24_3 ≤ 4) (i15 : l24_2 = 1 → WQ (am_Sby.getD 6 []) (dt 79 13 - dt 79 15) (mB (dt 85) (dt 79 12)) (dt 79 15) l24_3) (i16 : l24_2 = 0 → wm (am_Sby.getD 6 []) (mB (dt 85) (dt 79 12)) (dt 79 15).toNat (dt 79 13).toNat = 0) (i17 : l24_2 = 0 ∨ dt 79 13 - dt 79 15 = 4), (5 - l24_3).toNat < k_ → GO (am_XX L xs sio) (d + 4) 156 24 [some (.inr (.inr (some 79))), some (.inr (.inr (some 1006))), some (.inl l24_2), some (.inl l24_3)] [] (SH, dt) (fun r w2 => w2 = (SH, dt) ∧ ((∃ v : Int, r = some (.inl v) ∧ (0 ≤ v ∧ v ≤ 1) ∧ (v = wm (am_Sby.getD 6 []) (mB (dt 85) (dt 79 12)) (dt 79 15).toNat (dt 79 13).toNat)))) := by
      intro k_
      induction k_ with
      | zero => intro l24_2 l24_3 i13 i14 i15 i16 i17 hm; exact absurd hm (Nat.not_lt_zero _)
      | succ k_ ih_loop18 =>
        intro l24_2 l24_3 i13 i14 i15 i16 i17 hm
        replace i15 := hid i15
        replace i16 := hid i16
        replace i17 := hid i17
        have q1 := i15
        have q2 := i16
        refine go_toq PM156 (k := 2) (pc' := 26) (L' := [some (.inr (.inr (some 79))), some (.inr (.inr (some 1006))), some (.inl l24_2), some (.inl l24_3)]) (st' := [.inr (.inr (some 1006)), .inl l24_3]) (w' := (SH, dt)) rfl ?_
        refine go_callq PM156 PM249 (Q' := _) rfl rfl rfl rfl (sp_J0_length_8abf5_1006 L xs sio (d + 2) dt hI   ) ?_
        rintro _ _ ⟨rfl, h19⟩
        refine ⟨rfl, ?_⟩
        rcases h19 with ⟨rfl, h19⟩
        refine go_ifq PM156 (k := 0) (p1 := 67) (p2 := 32) (L' := [some (.inr (.inr (some 79))), some (.inr (.inr (some 1006))), some (.inl l24_2), some (.inl l24_3)]) (st' := []) (w' := (SH, dt)) rfl (c_ge (a := l24_3) (b := 4) (by first | exact bnd i14 (by decide) (by decide) | exact ⟨by fail, by fail⟩) ⟨by decide, by decide⟩) (fun c20 => ?_) (fun c20 => ?_)
        · skip
          refine go_toq PM156 (k := 1) (pc' := 68) (L' := [some (.inr (.inr (some 79))), some (.inr (.inr (some 1006))), some (.inl l24_2), some (.inl l24_3)]) (st' := [.inl l24_2]) (w' := (SH, dt)) rfl ?_
          refine go_retvq PM156 (v := l24_2) rfl (decide_eq_true (show l24_2 = 0 ∨ l24_2 = 1 by omega)) ?_
          exact ⟨rfl, ⟨_, rfl, ⟨by omega, by omega⟩, by rcases (show l24_2 = 0 ∨ l24_2 = 1 by omega) with z | z <;> first | (rw [q2 z]; exact z) | (rw [WM_1 (q1 z) ⟨by omega, by omega⟩ (by omega)]; exact z)⟩⟩
        · skip
          refine go_ifq PM156 (k := 1) (p1 := 67) (p2 := 36) (L' := [some (.inr (.inr (some 79))), some (.inr (.inr (some 1006))), some (.inl l24_2), some (.inl l24_3)]) (st' := []) (w' := (SH, dt)) rfl (z_eq (a := l24_2) (by first | exact bnd i13 (by decide) (by decide) | exact ⟨by fail, by fail⟩)) (fun c21 => ?_) (fun c21 => ?_)
          · skip
            refine go_toq PM156 (k := 1) (pc' := 68) (L' := [some (.inr (.inr (some 79))), some (.inr (.inr (some 1006))), some (.inl l24_2), some (.inl l24_3)]) (st' := [.inl l24_2]) (w' := (SH, dt)) rfl ?_
            refine go_retvq PM156 (v := l24_2) rfl (decide_eq_true (show l24_2 = 0 ∨ l24_2 = 1 by omega)) ?_
            exact ⟨rfl, ⟨_, rfl, ⟨by omega, by omega⟩, by rcases (show l24_2 = 0 ∨ l24_2 = 1 by omega) with z | z <;> first | (rw [q2 z]; exact z) | (rw [WM_1 (q1 z) ⟨by omega, by omega⟩ (by omega)]; exact z)⟩⟩
          · skip
            replace c21 := hid c21
            refine go_toq PM156 (k := 6) (pc' := 46) (L' := [some (.inr (.inr (some 79))), some (.inr (.inr (some 1006))), some (.inl l24_2), some (.inl l24_3)]) (st' := [.inl ((dt 79 15) + l24_3), .inr (.inr (some 85))]) (w' := (SH, dt)) rfl ?_
            have r22 : 0 ≤ dt 85 (((dt 79 15) + l24_3).toNat) ∧ dt 85 (((dt 79 15) + l24_3).toNat) ≤ 255 := InvC_get hI 85 (((dt 79 15) + l24_3).toNat) rfl rfl
            have u10_ := hid (And.intro (unhid c5) (And.intro (unhid i16) (And.intro (unhid i17) (unhid c21))))
            refine go_smpq PM156 (L' := [some (.inr (.inr (some 79))), some (.inr (.inr (some 1006))), some (.inl l24_2), some (.inl l24_3)]) (st' := [.inl (dt 85 (((dt 79 15) + l24_3).toNat))]) (w' := (SH, dt)) rfl rfl (s_iald (n := 500) (f := dt 85) rfl ⟨by omega, by (have z_ := unhid u10_; omega)⟩) ?_
            refine go_toq PM156 (k := 2) (pc' := 49) (L' := [some (.inr (.inr (some 79))), some (.inr (.inr (some 1006))), some (.inl l24_2), some (.inl l24_3)]) (st' := [.inl l24_3, .inr (.inr (some 1006)), .inl (dt 85 (((dt 79 15) + l24_3).toNat))]) (w' := (SH, dt)) rfl ?_
            refine go_callq PM156 PM250 (Q' := _) rfl rfl rfl rfl (sp_J0_charAt_5068e_6f L xs sio (d + 0) dt hI  l24_3 (by first | exact bnd i14 (by decide) (by decide) | exact bndd i14 c20 (by decide) (by decide) | exact ⟨by fail, by fail⟩) ) ?_
            rintro _ _ ⟨rfl, h23⟩
            refine ⟨rfl, ?_⟩
            rcases h23 with ⟨v_h23, rfl, h23r, h23⟩
            refine go_ifq PM156 (k := 0) (p1 := 59) (p2 := 55) (L' := [some (.inr (.inr (some 79))), some (.inr (.inr (some 1006))), some (.inl l24_2), some (.inl l24_3)]) (st' := []) (w' := (SH, dt)) rfl (c_ne (a := dt 85 (((dt 79 15) + l24_3).toNat)) (b := v_h23) (by first | exact bnd r22 (by decide) (by decide) | exact ⟨by fail, by fail⟩) (by first | exact bnd h23r (by decide) (by decide) | exact ⟨by fail, by fail⟩)) (fun c24 => ?_) (fun c24 => ?_)
            · skip
              replace c24 := hid c24
              refine go_toq PM156 (k := 4) (pc' := 24) (L' := [some (.inr (.inr (some 79))), some (.inr (.inr (some 1006))), some (.inl 0), some (.inl (l24_3 + 1))]) (st' := []) (w' := (SH, dt)) rfl ?_
              have u11_ := hid (And.intro (unhid c5) (And.intro (unhid i16) (And.intro (unhid i17) (And.intro (unhid c21) (unhid c24)))))
              exact GO.le (ih_loop18 0 (l24_3 + 1) (by first | omega | (intro z; first | fail | exact WQ_0 (by fail) (by fail) | exact WM_a ⟨by fail, by fail⟩ (by fail) | exact WQ_s (q1 (by fail)) ⟨by fail, by fail⟩ (mB_in (by fail) (by fail)).symm h23 (by fail) | exact WM_b ⟨by fail, by fail⟩ (by fail) (mB_in (by fail) (by fail)).symm h23 (by fail))) (by first | omega | (intro z; first | fail | exact WQ_0 (by fail) (by fail) | exact WM_a ⟨by fail, by fail⟩ (by fail) | exact WQ_s (q1 (by fail)) ⟨by fail, by fail⟩ (mB_in (by fail) (by fail)).symm h23 (by fail) | exact WM_b ⟨by fail, by fail⟩ (by fail) (mB_in (by fail) (by fail)).symm h23 (by fail))) (by first | omega | (intro z; first | fail | exact WQ_0 (by fail) (by fail) | exact WM_a ⟨by fail, by fail⟩ (by fail) | exact WQ_s (q1 (by fail)) ⟨by fail, by fail⟩ (mB_in (by fail) (by fail)).symm h23 (by fail) | exact WM_b ⟨by fail, by fail⟩ (by fail) (mB_in (by fail) (by fail)).symm h23 (by fail))) (by first | (have z_ := unhid u11_; omega) | (intro z; first | fail | exact WQ_0 (by fail) (by fail) | exact WM_a ⟨by fail, by fail⟩ (by fail) | exact WQ_s (q1 (by fail)) ⟨by fail, by fail⟩ (mB_in (by fail) (by fail)).symm h23 (by fail) | exact WM_b ⟨by fail, by fail⟩ (by fail) (mB_in (by fail) (by fail)).symm h23 (by fail))) (by first | omega | (intro z; first | fail | exact WQ_0 (by fail) (by fail) | exact WM_a ⟨by fail, by fail⟩ (by fail) | exact WQ_s (q1 (by fail)) ⟨by fail, by fail⟩ (mB_in (by fail) (by fail)).symm h23 (by fail) | exact WM_b ⟨by fail, by fail⟩ (by fail) (mB_in (by fail) (by fail)).symm h23 (by fail))) (by omega)) ⟨.inl rfl, .inl rfl, .inl rfl, .inl rfl, trivial⟩
            · skip
              refine go_toq PM156 (k := 5) (pc' := 24) (L' := [some (.inr (.inr (some 79))), some (.inr (.inr (some 1006))), some (.inl 1), some (.inl (l24_3 + 1))]) (st' := []) (w' := (SH, dt)) rfl ?_
              exact GO.le (ih_loop18 1 (l24_3 + 1) (by first | omega | (intro z; first | fail | exact WQ_0 (by fail) (by fail) | exact WM_a ⟨by fail, by fail⟩ (by fail) | exact WQ_s (q1 (by fail)) ⟨by fail, by fail⟩ (mB_in (by fail) (by fail)).symm h23 (by fail) | exact WM_b ⟨by fail, by fail⟩ (by fail) (mB_in (by fail) (by fail)).symm h23 (by fail))) (by first | omega | (intro z; first | fail | exact WQ_0 (by fail) (by fail) | exact WM_a ⟨by fail, by fail⟩ (by fail) | exact WQ_s (q1 (by fail)) ⟨by fail, by fail⟩ (mB_in (by fail) (by fail)).symm h23 (by fail) | exact WM_b ⟨by fail, by fail⟩ (by fail) (mB_in (by fail) (by fail)).symm h23 (by fail))) (by first | (have z_ := unhid u10_; omega) | (intro z; first | fail | exact WQ_0 (by fail) (by fail) | exact WM_a ⟨by fail, by fail⟩ (by fail) | exact WQ_s (q1 (by fail)) ⟨by fail, by fail⟩ (mB_in (by fail) (by fail)).symm h23 (by fail) | exact WM_b ⟨by fail, by fail⟩ (by fail) (mB_in (by fail) (by fail)).symm h23 (by fail))) (by first | omega | (intro z; first | fail | exact WQ_0 (by fail) (by fail) | exact WM_a ⟨by fail, by fail⟩ (by fail) | exact WQ_s (q1 (by fail)) ⟨by fail, by fail⟩ (mB_in (by fail) (by fail)).symm h23 (by fail) | exact WM_b ⟨by fail, by fail⟩ (by fail) (mB_in (by fail) (by fail)).symm h23 (by fail))) (by first | (have z_ := unhid u10_; omega) | (intro z; first | fail | exact WQ_0 (by fail) (by fail) | exact WM_a ⟨by fail, by fail⟩ (by fail) | exact WQ_s (q1 (by fail)) ⟨by fail, by fail⟩ (mB_in (by fail) (by fail)).symm h23 (by fail) | exact WM_b ⟨by fail, by fail⟩ (by fail) (mB_in (by fail) (by fail)).symm h23 (by fail))) (by omega)) ⟨.inl rfl, .inl rfl, .inl rfl, .inl rfl, trivial⟩
    exact GO.le (loop18 _ 0 0 (by first | omega | (intro z; first | fail | exact WQ_0 (by fail) (by fail) | exact WM_a ⟨by fail, by fail⟩ (by fail) | exact WQ_s (q1 (by fail)) ⟨by fail, by fail⟩ (mB_in (by fail) (by fail)).symm hI (by fail) | exact WM_b ⟨by fail, by fail⟩ (by fail) (mB_in (by fail) (by fail)).symm hI (by fail))) (by first | omega | (intro z; first | fail | exact WQ_0 (by fail) (by fail) | exact WM_a ⟨by fail, by fail⟩ (by fail) | exact WQ_s (q1 (by fail)) ⟨by fail, by fail⟩ (mB_in (by fail) (by fail)).symm hI (by fail) | exact WM_b ⟨by fail, by fail⟩ (by fail) (mB_in (by fail) (by fail)).symm hI (by fail))) (by first | omega | (intro z; first | fail | exact WQ_0 (by fail) (by fail) | exact WM_a ⟨by fail, by fail⟩ (by fail) | exact WQ_s (q1 (by fail)) ⟨by fail, by fail⟩ (mB_in (by fail) (by fail)).symm hI (by fail) | exact WM_b ⟨by fail, by fail⟩ (by fail) (mB_in (by fail) (by fail)).symm hI (by fail))) (by first | fail | (intro z; first | fail | exact WQ_0 (by fail) (by fail) | exact WM_a ⟨by omega, by omega⟩ (by (have z0_ := unhid c5; omega)) | exact WQ_s (q1 (by fail)) ⟨by fail, by fail⟩ (mB_in (by fail) (by fail)).symm hI (by fail) | exact WM_b ⟨by fail, by fail⟩ (by fail) (mB_in (by fail) (by fail)).symm hI (by fail))) (by first | omega | (intro z; first | fail | exact WQ_0 (by fail) (by fail) | exact WM_a ⟨by fail, by fail⟩ (by fail) | exact WQ_s (q1 (by fail)) ⟨by fail, by fail⟩ (mB_in (by fail) (by fail)).symm hI (by fail) | exact WM_b ⟨by fail, by fail⟩ (by fail) (mB_in (by fail) (by fail)).symm hI (by fail))) (Nat.lt_succ_self _)) ⟨.inl rfl, .inl rfl, .inl rfl, .inl rfl, trivial⟩
  · skip
    refine go_toq PM156 (k := 5) (pc' := 24) (L' := [some (.inr (.inr (some 79))), some (.inr (.inr (some 1006))), some (.inl 1), some (.inl 0)]) (st' := []) (w' := (SH, dt)) rfl ?_
    have loop37 : ∀ (k_ : Nat) (l24_2 : Int) (l24_3 : Int) (i32 : 0 ≤ l24_2 ∧ l24_2 ≤ 1) (i33 : 0 ≤ l24_3 ∧ l24_3 ≤ 4) (i34 : l24_2 = 1 → WQ (am_Sby.getD 6 []) (dt 79 13 - dt 79 15) (mB (dt 85) (dt 79 12)) (dt 79 15) l24_3) (i35 : l24_2 = 0 → wm (am_Sby.getD 6 []) (mB (dt 85) (dt 79 12)) (dt 79 15).toNat (dt 79 13).toNat = 0) (i36 : l24_2 = 0 ∨ dt 79 13 - dt 79 15 = 4), (5 - l24_3).toNat < k_ → GO (am_XX L xs sio) (d + 4) 156 24 [some (.inr (.inr (some 79))), some (.inr (.inr (some 1006))), some (.inl l24_2), some (.inl l24_3)] [] (SH, dt) (fun r w2 => w2 = (SH, dt) ∧ ((∃ v : Int, r = some (.inl v) ∧ (0 ≤ v ∧ v ≤ 1) ∧ (v = wm (am_Sby.getD 6 []) (mB (dt 85) (dt 79 12)) (dt 79 15).toNat (dt 79 13).toNat)))) := by
      intro k_
      induction k_ with
      | zero => intro l24_2 l24_3 i32 i33 i34 i35 i36 hm; exact absurd hm (Nat.not_lt_zero _)
      | succ k_ ih_loop37 =>
        intro l24_2 l24_3 i32 i33 i34 i35 i36 hm
        replace i34 := hid i34
        replace i35 := hid i35
        replace i36 := hid i36
        have q1 := i34
        have q2 := i35
        refine go_toq PM156 (k := 2) (pc' := 26) (L' := [some (.inr (.inr (some 79))), some (.inr (.inr (some 1006))), some (.inl l24_2), some (.inl l24_3)]) (st' := [.inr (.inr (some 1006)), .inl l24_3]) (w' := (SH, dt)) rfl ?_
        refine go_callq PM156 PM249 (Q' := _) rfl rfl rfl rfl (sp_J0_length_8abf5_1006 L xs sio (d + 2) dt hI   ) ?_
        rintro _ _ ⟨rfl, h38⟩
        refine ⟨rfl, ?_⟩
        rcases h38 with ⟨rfl, h38⟩
        refine go_ifq PM156 (k := 0) (p1 := 67) (p2 := 32) (L' := [some (.inr (.inr (some 79))), some (.inr (.inr (some 1006))), some (.inl l24_2), some (.inl l24_3)]) (st' := []) (w' := (SH, dt)) rfl (c_ge (a := l24_3) (b := 4) (by first | exact bnd i33 (by decide) (by decide) | exact ⟨by fail, by fail⟩) ⟨by decide, by decide⟩) (fun c39 => ?_) (fun c39 => ?_)
        · skip
          refine go_toq PM156 (k := 1) (pc' := 68) (L' := [some (.inr (.inr (some 79))), some (.inr (.inr (some 1006))), some (.inl l24_2), some (.inl l24_3)]) (st' := [.inl l24_2]) (w' := (SH, dt)) rfl ?_
          refine go_retvq PM156 (v := l24_2) rfl (decide_eq_true (show l24_2 = 0 ∨ l24_2 = 1 by omega)) ?_
          exact ⟨rfl, ⟨_, rfl, ⟨by omega, by omega⟩, by rcases (show l24_2 = 0 ∨ l24_2 = 1 by omega) with z | z <;> first | (rw [q2 z]; exact z) | (rw [WM_1 (q1 z) ⟨by omega, by omega⟩ (by omega)]; exact z)⟩⟩
        · skip
          refine go_ifq PM156 (k := 1) (p1 := 67) (p2 := 36) (L' := [some (.inr (.inr (some 79))), some (.inr (.inr (some 1006))), some (.inl l24_2), some (.inl l24_3)]) (st' := []) (w' := (SH, dt)) rfl (z_eq (a := l24_2) (by first | exact bnd i32 (by decide) (by decide) | exact ⟨by fail, by fail⟩)) (fun c40 => ?_) (fun c40 => ?_)
          · skip
            refine go_toq PM156 (k := 1) (pc' := 68) (L' := [some (.inr (.inr (some 79))), some (.inr (.inr (some 1006))), some (.inl l24_2), some (.inl l24_3)]) (st' := [.inl l24_2]) (w' := (SH, dt)) rfl ?_
            refine go_retvq PM156 (v := l24_2) rfl (decide_eq_true (show l24_2 = 0 ∨ l24_2 = 1 by omega)) ?_
            exact ⟨rfl, ⟨_, rfl, ⟨by omega, by omega⟩, by rcases (show l24_2 = 0 ∨ l24_2 = 1 by omega) with z | z <;> first | (rw [q2 z]; exact z) | (rw [WM_1 (q1 z) ⟨by omega, by omega⟩ (by omega)]; exact z)⟩⟩
          · skip
            replace c40 := hid c40
            refine go_toq PM156 (k := 6) (pc' := 46) (L' := [some (.inr (.inr (some 79))), some (.inr (.inr (some 1006))), some (.inl l24_2), some (.inl l24_3)]) (st' := [.inl ((dt 79 15) + l24_3), .inr (.inr (some 85))]) (w' := (SH, dt)) rfl ?_
            have r41 : 0 ≤ dt 85 (((dt 79 15) + l24_3).toNat) ∧ dt 85 (((dt 79 15) + l24_3).toNat) ≤ 255 := InvC_get hI 85 (((dt 79 15) + l24_3).toNat) rfl rfl
            refine go_smpq PM156 (L' := [some (.inr (.inr (some 79))), some (.inr (.inr (some 1006))), some (.inl l24_2), some (.inl l24_3)]) (st' := [.inl (dt 85 (((dt 79 15) + l24_3).toNat))]) (w' := (SH, dt)) rfl rfl (s_iald (n := 500) (f := dt 85) rfl ⟨by omega, by omega⟩) ?_
            refine go_toq PM156 (k := 2) (pc' := 49) (L' := [some (.inr (.inr (some 79))), some (.inr (.inr (some 1006))), some (.inl l24_2), some (.inl l24_3)]) (st' := [.inl l24_3, .inr (.inr (some 1006)), .inl (dt 85 (((dt 79 15) + l24_3).toNat))]) (w' := (SH, dt)) rfl ?_
            refine go_callq PM156 PM250 (Q' := _) rfl rfl rfl rfl (sp_J0_charAt_5068e_6f L xs sio (d + 0) dt hI  l24_3 (by first | exact bnd i33 (by decide) (by decide) | exact bndd i33 c39 (by decide) (by decide) | exact ⟨by fail, by fail⟩) ) ?_
            rintro _ _ ⟨rfl, h42⟩
            refine ⟨rfl, ?_⟩
            rcases h42 with ⟨v_h42, rfl, h42r, h42⟩
            refine go_ifq PM156 (k := 0) (p1 := 59) (p2 := 55) (L' := [some (.inr (.inr (some 79))), some (.inr (.inr (some 1006))), some (.inl l24_2), some (.inl l24_3)]) (st' := []) (w' := (SH, dt)) rfl (c_ne (a := dt 85 (((dt 79 15) + l24_3).toNat)) (b := v_h42) (by first | exact bnd r41 (by decide) (by decide) | exact ⟨by fail, by fail⟩) (by first | exact bnd h42r (by decide) (by decide) | exact ⟨by fail, by fail⟩)) (fun c43 => ?_) (fun c43 => ?_)
            · skip
              replace c43 := hid c43
              refine go_toq PM156 (k := 4) (pc' := 24) (L' := [some (.inr (.inr (some 79))), some (.inr (.inr (some 1006))), some (.inl 0), some (.inl (l24_3 + 1))]) (st' := []) (w' := (SH, dt)) rfl ?_
              have u12_ := hid (And.intro (unhid i35) (And.intro (unhid i36) (And.intro (unhid c40) (unhid c43))))
              exact GO.le (ih_loop37 0 (l24_3 + 1) (by first | omega | (intro z; first | fail | exact WQ_0 (by fail) (by fail) | exact WM_a ⟨by fail, by fail⟩ (by fail) | exact WQ_s (q1 (by fail)) ⟨by fail, by fail⟩ (mB_in (by fail) (by fail)).symm h42 (by fail) | exact WM_b ⟨by fail, by fail⟩ (by fail) (mB_in (by fail) (by fail)).symm h42 (by fail))) (by first | omega | (intro z; first | fail | exact WQ_0 (by fail) (by fail) | exact WM_a ⟨by fail, by fail⟩ (by fail) | exact WQ_s (q1 (by fail)) ⟨by fail, by fail⟩ (mB_in (by fail) (by fail)).symm h42 (by fail) | exact WM_b ⟨by fail, by fail⟩ (by fail) (mB_in (by fail) (by fail)).symm h42 (by fail))) (by first | omega | (intro z; first | fail | exact WQ_0 (by fail) (by fail) | exact WM_a ⟨by fail, by fail⟩ (by fail) | exact WQ_s (q1 (by fail)) ⟨by fail, by fail⟩ (mB_in (by fail) (by fail)).symm h42 (by fail) | exact WM_b ⟨by fail, by fail⟩ (by fail) (mB_in (by fail) (by fail)).symm h42 (by fail))) (by first | fail | (intro z; first | fail | exact WQ_0 (by fail) (by fail) | exact WM_a ⟨by omega, by omega⟩ (by fail) | exact WQ_s (q1 (by (have z_ := unhid u12_; omega))) ⟨by omega, by omega⟩ (mB_in (by omega) (by omega)).symm h42 (by fail) | exact WM_b ⟨by omega, by omega⟩ (by omega) (mB_in (by omega) (by omega)).symm h42 (by (have z_ := unhid u12_; omega)))) (by first | omega | (intro z; first | fail | exact WQ_0 (by fail) (by fail) | exact WM_a ⟨by fail, by fail⟩ (by fail) | exact WQ_s (q1 (by fail)) ⟨by fail, by fail⟩ (mB_in (by fail) (by fail)).symm h42 (by fail) | exact WM_b ⟨by fail, by fail⟩ (by fail) (mB_in (by fail) (by fail)).symm h42 (by fail))) (by omega)) ⟨.inl rfl, .inl rfl, .inl rfl, .inl rfl, trivial⟩
            · skip
              refine go_toq PM156 (k := 5) (pc' := 24) (L' := [some (.inr (.inr (some 79))), some (.inr (.inr (some 1006))), some (.inl 1), some (.inl (l24_3 + 1))]) (st' := []) (w' := (SH, dt)) rfl ?_
              exact GO.le (ih_loop37 1 (l24_3 + 1) (by first | omega | (intro z; first | fail | exact WQ_0 (by fail) (by fail) | exact WM_a ⟨by fail, by fail⟩ (by fail) | exact WQ_s (q1 (by fail)) ⟨by fail, by fail⟩ (mB_in (by fail) (by fail)).symm h42 (by fail) | exact WM_b ⟨by fail, by fail⟩ (by fail) (mB_in (by fail) (by fail)).symm h42 (by fail))) (by first | omega | (intro z; first | fail | exact WQ_0 (by fail) (by fail) | exact WM_a ⟨by fail, by fail⟩ (by fail) | exact WQ_s (q1 (by fail)) ⟨by fail, by fail⟩ (mB_in (by fail) (by fail)).symm h42 (by fail) | exact WM_b ⟨by fail, by fail⟩ (by fail) (mB_in (by fail) (by fail)).symm h42 (by fail))) (by first | fail | (intro z; first | fail | exact WQ_0 (by omega) (by fail) | exact WM_a ⟨by fail, by fail⟩ (by fail) | exact WQ_s (q1 (by (have z0_ := unhid i35; have z1_ := unhid i36; have z2_ := unhid c40; omega))) ⟨by omega, by omega⟩ (mB_in (by omega) (by omega)).symm h42 (by omega) | exact WM_b ⟨by fail, by fail⟩ (by fail) (mB_in (by fail) (by fail)).symm h42 (by fail))) (by first | omega | (intro z; first | fail | exact WQ_0 (by fail) (by fail) | exact WM_a ⟨by fail, by fail⟩ (by fail) | exact WQ_s (q1 (by fail)) ⟨by fail, by fail⟩ (mB_in (by fail) (by fail)).symm h42 (by fail) | exact WM_b ⟨by fail, by fail⟩ (by fail) (mB_in (by fail) (by fail)).symm h42 (by fail))) (by first | omega | (intro z; first | fail | exact WQ_0 (by fail) (by fail) | exact WM_a ⟨by fail, by fail⟩ (by fail) | exact WQ_s (q1 (by fail)) ⟨by fail, by fail⟩ (mB_in (by fail) (by fail)).symm h42 (by fail) | exact WM_b ⟨by fail, by fail⟩ (by fail) (mB_in (by fail) (by fail)).symm h42 (by fail))) (by omega)) ⟨.inl rfl, .inl rfl, .inl rfl, .inl rfl, trivial⟩
    exact GO.le (loop37 _ 1 0 (by first | omega | (intro z; first | fail | exact WQ_0 (by fail) (by fail) | exact WM_a ⟨by fail, by fail⟩ (by fail) | exact WQ_s (q1 (by fail)) ⟨by fail, by fail⟩ (mB_in (by fail) (by fail)).symm hI (by fail) | exact WM_b ⟨by fail, by fail⟩ (by fail) (mB_in (by fail) (by fail)).symm hI (by fail))) (by first | omega | (intro z; first | fail | exact WQ_0 (by fail) (by fail) | exact WM_a ⟨by fail, by fail⟩ (by fail) | exact WQ_s (q1 (by fail)) ⟨by fail, by fail⟩ (mB_in (by fail) (by fail)).symm hI (by fail) | exact WM_b ⟨by fail, by fail⟩ (by fail) (mB_in (by fail) (by fail)).symm hI (by fail))) (by first | fail | (intro z; first | fail | exact WQ_0 (by omega) (by omega) | exact WM_a ⟨by fail, by fail⟩ (by fail) | exact WQ_s (q1 (by fail)) ⟨by fail, by fail⟩ (mB_in (by fail) (by fail)).symm hI (by fail) | exact WM_b ⟨by fail, by fail⟩ (by fail) (mB_in (by fail) (by fail)).symm hI (by fail))) (by first | omega | (intro z; first | fail | exact WQ_0 (by fail) (by fail) | exact WM_a ⟨by fail, by fail⟩ (by fail) | exact WQ_s (q1 (by fail)) ⟨by fail, by fail⟩ (mB_in (by fail) (by fail)).symm hI (by fail) | exact WM_b ⟨by fail, by fail⟩ (by fail) (mB_in (by fail) (by fail)).symm hI (by fail))) (by first | omega | (intro z; first | fail | exact WQ_0 (by fail) (by fail) | exact WM_a ⟨by fail, by fail⟩ (by fail) | exact WQ_s (q1 (by fail)) ⟨by fail, by fail⟩ (mB_in (by fail) (by fail)).symm hI (by fail) | exact WM_b ⟨by fail, by fail⟩ (by fail) (mB_in (by fail) (by fail)).symm hI (by fail))) (Nat.lt_succ_self _)) ⟨.inl rfl, .inl rfl, .inl rfl, .inl rfl, trivial⟩
theorem sp_J1_charAt_3b067_7f (L : Nat) (xs : Nat → Int32) (sio : Option Nat) (d : Nat) (dt : Nat → Nat → Int) (hI : InvC dt)  (p2 : Int) (h_p2 : 0 ≤ p2 ∧ p2 ≤ 3)  : GO (am_XX L xs sio) (d + 2) 256 0 [some (.inr (.inr (some 2007))), some (.inl p2)] [] (SH, dt) (fun r w2 => w2 = (SH, dt) ∧ ((∃ v : Int, r = some (.inl v) ∧ (0 ≤ v ∧ v ≤ 65535) ∧ (v = (am_Sby.getD 7 []).getD p2.toNat 0)))) := by
  refine go_toq PM256 (k := 3) (pc' := 3) (L' := [some (.inr (.inr (some 2007))), some (.inl p2)]) (st' := [.inl 4, .inl p2]) (w' := (SH, dt)) rfl ?_
  refine go_callq PM256 PM255 (Q' := _) rfl rfl rfl rfl (sp_J0_checkIndex_df160 L xs sio (d + 0) dt hI  p2 (by first | exact h_p2 | exact bnd h_p2 (by decide) (by decide) | exact ⟨by fail, by fail⟩) 4 ⟨by decide, by decide⟩ (by first | exact True.intro | with_reducible assumption | rfl | omega | trivial)) ?_
  rintro _ _ ⟨rfl, h1⟩
  refine ⟨rfl, ?_⟩
  rcases h1 with ⟨rfl, h1⟩
  refine go_toq PM256 (k := 2) (pc' := 8) (L' := [some (.inr (.inr (some 2007))), some (.inl p2)]) (st' := [.inl p2, .inr (.inr (some 2007))]) (w' := (SH, dt)) rfl ?_
  have r2 := sby_R 7 (p2).toNat
  refine go_smpq PM256 (L' := [some (.inr (.inr (some 2007))), some (.inl p2)]) (st' := [.inl ((am_Sby.getD 7 []).getD (p2).toNat 0)]) (w' := (SH, dt)) rfl rfl (s_bald (n := 4) (f := fun q => (am_Sby.getD 7 []).getD q 0) rfl (by first | exact bndx h_p2 (by decide) (by decide) | exact ⟨by fail, by fail⟩)) ?_
  have r3 : 0 ≤ am_and ((am_Sby.getD 7 []).getD (p2).toNat 0) 255 ∧ am_and ((am_Sby.getD 7 []).getD (p2).toNat 0) 255 ≤ 255 := and_R255
  have r4 := i2c_R (am_and ((am_Sby.getD 7 []).getD (p2).toNat 0) 255)
  refine go_toq PM256 (k := 3) (pc' := 14) (L' := [some (.inr (.inr (some 2007))), some (.inl p2)]) (st' := [.inl (am_i2c (am_and ((am_Sby.getD 7 []).getD (p2).toNat 0) 255))]) (w' := (SH, dt)) rfl ?_
  refine go_retvq PM256 (v := am_i2c (am_and ((am_Sby.getD 7 []).getD (p2).toNat 0) 255)) rfl (decide_eq_true (show 0 ≤ am_i2c (am_and ((am_Sby.getD 7 []).getD (p2).toNat 0) 255) ∧ am_i2c (am_and ((am_Sby.getD 7 []).getD (p2).toNat 0) 255) < 65536 by omega)) ?_
  exact ⟨rfl, ⟨_, rfl, ⟨by omega, by omega⟩, by exact ic_id ⟨by omega, by omega⟩⟩⟩
theorem sp_J0_charAt_5068e_7f (L : Nat) (xs : Nat → Int32) (sio : Option Nat) (d : Nat) (dt : Nat → Nat → Int) (hI : InvC dt)  (p1 : Int) (h_p1 : 0 ≤ p1 ∧ p1 ≤ 3)  : GO (am_XX L xs sio) (d + 3) 250 0 [some (.inr (.inr (some 1007))), some (.inl p1)] [] (SH, dt) (fun r w2 => w2 = (SH, dt) ∧ ((∃ v : Int, r = some (.inl v) ∧ (0 ≤ v ∧ v ≤ 65535) ∧ (v = (am_Sby.getD 7 []).getD p1.toNat 0)))) := by
  refine go_toq PM250 (k := 1) (pc' := 1) (L' := [some (.inr (.inr (some 1007))), some (.inl p1)]) (st' := [.inr (.inr (some 1007))]) (w' := (SH, dt)) rfl ?_
  refine go_callq PM250 PM254 (Q' := _) rfl rfl rfl rfl (sp_J0_isLatin1_aae02_1007 L xs sio (d + 2) dt hI   ) ?_
  rintro _ _ ⟨rfl, h1⟩
  refine ⟨rfl, ?_⟩
  rcases h1 with ⟨rfl, h1⟩
  refine go_toq PM250 (k := 4) (pc' := 12) (L' := [some (.inr (.inr (some 1007))), some (.inl p1)]) (st' := [.inl p1, .inr (.inr (some 2007))]) (w' := (SH, dt)) rfl ?_
  refine go_callq PM250 PM256 (Q' := _) rfl rfl rfl rfl (sp_J1_charAt_3b067_7f L xs sio (d + 0) dt hI  p1 (by first | exact h_p1 | exact bnd h_p1 (by decide) (by decide) | exact ⟨by fail, by fail⟩) ) ?_
  rintro _ _ ⟨rfl, h2⟩
  refine ⟨rfl, ?_⟩
  rcases h2 with ⟨v_h2, rfl, h2r, h2⟩
  refine go_retvq PM250 (v := v_h2) rfl (decide_eq_true (show 0 ≤ v_h2 ∧ v_h2 < 65536 by omega)) ?_
  exact ⟨rfl, ⟨_, rfl, ⟨by omega, by omega⟩, by first | exact True.intro | with_reducible assumption | rfl | fail | trivial⟩⟩
set_option maxRecDepth 20000 in
theorem sp_X6_is_7f (L : Nat) (xs : Nat → Int32) (sio : Option Nat) (d : Nat) (dt : Nat → Nat → Int) (hI : InvC dt)   (h_p0 : dt 79 13 ≤ 500) (h_p1 : dt 79 15 ≤ dt 79 13) (h_p2 : dt 79 13 ≤ dt 79 12) : GO (am_XX L xs sio) (d + 4) 156 0 [some (.inr (.inr (some 79))), some (.inr (.inr (some 1007))), none, none] [] (SH, dt) (fun r w2 => w2 = (SH, dt) ∧ ((∃ v : Int, r = some (.inl v) ∧ (0 ≤ v ∧ v ≤ 1) ∧ (v = wm (am_Sby.getD 7 []) (mB (dt 85) (dt 79 12)) (dt 79 15).toNat (dt 79 13).toNat)))) := by
  have r1 : 0 ≤ dt 79 13 ∧ dt 79 13 ≤ 501 := InvC_get hI 79 13 rfl rfl
  have r2 : 0 ≤ dt 79 15 ∧ dt 79 15 ≤ 500 := InvC_get hI 79 15 rfl rfl
  have r3 : 0 ≤ dt 79 12 ∧ dt 79 12 ≤ 500 := InvC_get hI 79 12 rfl rfl
  have hlen : (((am_Sby.getD 7 []).length : Nat) : Int) = 4 := rfl
  refine go_toq PM156 (k := 6) (pc' := 10) (L' := [some (.inr (.inr (some 79))), some (.inr (.inr (some 1007))), none, none]) (st' := [.inr (.inr (some 1007)), .inl ((dt 79 13) - (dt 79 15))]) (w' := (SH, dt)) rfl ?_
  refine go_callq PM156 PM249 (Q' := _) rfl rfl rfl rfl (sp_J0_length_8abf5_1007 L xs sio (d + 2) dt hI   ) ?_
  rintro _ _ ⟨rfl, h4⟩
  refine ⟨rfl, ?_⟩
  rcases h4 with ⟨rfl, h4⟩
  refine go_ifq PM156 (k := 0) (p1 := 20) (p2 := 16) (L' := [some (.inr (.inr (some 79))), some (.inr (.inr (some 1007))), none, none]) (st' := []) (w' := (SH, dt)) rfl (c_ne (a := (dt 79 13) - (dt 79 15)) (b := 4) ⟨by omega, by omega⟩ ⟨by decide, by decide⟩) (fun c5 => ?_) (fun c5 => ?_)
  · skip
    replace c5 := hid c5
    refine go_toq PM156 (k := 4) (pc' := 24) (L' := [some (.inr (.inr (some 79))), some (.inr (.inr (some 1007))), some (.inl 0), some (.inl 0)]) (st' := []) (w' := (SH, dt)) rfl ?_
    have loop18 : ∀ (k_ : Nat) (l24_2 : Int) (l24_3 : Int) (i13 : 0 ≤ l24_2 ∧ l24_2 ≤ 1) (i14 : 0 ≤ l24_3 ∧ l24_3 ≤ 4) (i15 : l24_2 = 1 → WQ (am_Sby.getD 7 []) (dt 79 13 - dt 79 15) (mB (dt 85) (dt 79 12)) (dt 79 15) l24_3) (i16 : l24_2 = 0 → wm (am_Sby.getD 7 []) (mB (dt 85) (dt 79 12)) (dt 79 15).toNat (dt 79 13).toNat = 0) (i17 : l24_2 = 0 ∨ dt 79 13 - dt 79 15 = 4), (5 - l24_3).toNat < k_ → GO (am_XX L xs sio) (d + 4) 156 24 [some (.inr (.inr (some 79))), some (.inr (.inr (some 1007))), some (.inl l24_2), some (.inl l24_3)] [] (SH, dt) (fun r w2 => w2 = (SH, dt) ∧ ((∃ v : Int, r = some (.inl v) ∧ (0 ≤ v ∧ v ≤ 1) ∧ (v = wm (am_Sby.getD 7 []) (mB (dt 85) (dt 79 12)) (dt 79 15).toNat (dt 79 13).toNat)))) := by
      intro k_
      induction k_ with
      | zero => intro l24_2 l24_3 i13 i14 i15 i16 i17 hm; exact absurd hm (Nat.not_lt_zero _)
      | succ k_ ih_loop18 =>
        intro l24_2 l24_3 i13 i14 i15 i16 i17 hm
        replace i15 := hid i15
        replace i16 := hid i16
        replace i17 := hid i17
        have q1 := i15
        have q2 := i16
        refine go_toq PM156 (k := 2) (pc' := 26) (L' := [some (.inr (.inr (some 79))), some (.inr (.inr (some 1007))), some (.inl l24_2), some (.inl l24_3)]) (st' := [.inr (.inr (some 1007)), .inl l24_3]) (w' := (SH, dt)) rfl ?_
        refine go_callq PM156 PM249 (Q' := _) rfl rfl rfl rfl (sp_J0_length_8abf5_1007 L xs sio (d + 2) dt hI   ) ?_
        rintro _ _ ⟨rfl, h19⟩
        refine ⟨rfl, ?_⟩
        rcases h19 with ⟨rfl, h19⟩
        refine go_ifq PM156 (k := 0) (p1 := 67) (p2 := 32) (L' := [some (.inr (.inr (some 79))), some (.inr (.inr (some 1007))), some (.inl l24_2), some (.inl l24_3)]) (st' := []) (w' := (SH, dt)) rfl (c_ge (a := l24_3) (b := 4) (by first | exact bnd i14 (by decide) (by decide) | exact ⟨by fail, by fail⟩) ⟨by decide, by decide⟩) (fun c20 => ?_) (fun c20 => ?_)
        · skip
          refine go_toq PM156 (k := 1) (pc' := 68) (L' := [some (.inr (.inr (some 79))), some (.inr (.inr (some 1007))), some (.inl l24_2), some (.inl l24_3)]) (st' := [.inl l24_2]) (w' := (SH, dt)) rfl ?_
          refine go_retvq PM156 (v := l24_2) rfl (decide_eq_true (show l24_2 = 0 ∨ l24_2 = 1 by omega)) ?_
          exact ⟨rfl, ⟨_, rfl, ⟨by omega, by omega⟩, by rcases (show l24_2 = 0 ∨ l24_2 = 1 by omega) with z | z <;> first | (rw [q2 z]; exact z) | (rw [WM_1 (q1 z) ⟨by omega, by omega⟩ (by omega)]; exact z)⟩⟩
        · skip
          refine go_ifq PM156 (k := 1) (p1 := 67) (p2 := 36) (L' := [some (.inr (.inr (some 79))), some (.inr (.inr (some 1007))), some (.inl l24_2), some (.inl l24_3)]) (st' := []) (w' := (SH, dt)) rfl (z_eq (a := l24_2) (by first | exact bnd i13 (by decide) (by decide) | exact ⟨by fail, by fail⟩)) (fun c21 => ?_) (fun c21 => ?_)
          · skip
            refine go_toq PM156 (k := 1) (pc' := 68) (L' := [some (.inr (.inr (some 79))), some (.inr (.inr (some 1007))), some (.inl l24_2), some (.inl l24_3)]) (st' := [.inl l24_2]) (w' := (SH, dt)) rfl ?_
            refine go_retvq PM156 (v := l24_2) rfl (decide_eq_true (show l24_2 = 0 ∨ l24_2 = 1 by omega)) ?_
            exact ⟨rfl, ⟨_, rfl, ⟨by omega, by omega⟩, by rcases (show l24_2 = 0 ∨ l24_2 = 1 by omega) with z | z <;> first | (rw [q2 z]; exact z) | (rw [WM_1 (q1 z) ⟨by omega, by omega⟩ (by omega)]; exact z)⟩⟩
          · skip
            replace c21 := hid c21
            refine go_toq PM156 (k := 6) (pc' := 46) (L' := [some (.inr (.inr (some 79))), some (.inr (.inr (some 1007))), some (.inl l24_2), some (.inl l24_3)]) (st' := [.inl ((dt 79 15) + l24_3), .inr (.inr (some 85))]) (w' := (SH, dt)) rfl ?_
            have r22 : 0 ≤ dt 85 (((dt 79 15) + l24_3).toNat) ∧ dt 85 (((dt 79 15) + l24_3).toNat) ≤ 255 := InvC_get hI 85 (((dt 79 15) + l24_3).toNat) rfl rfl
            have u13_ := hid (And.intro (unhid c5) (And.intro (unhid i16) (And.intro (unhid i17) (unhid c21))))
            refine go_smpq PM156 (L' := [some (.inr (.inr (some 79))), some (.inr (.inr (some 1007))), some (.inl l24_2), some (.inl l24_3)]) (st' := [.inl (dt 85 (((dt 79 15) + l24_3).toNat))]) (w' := (SH, dt)) rfl rfl (s_iald (n := 500) (f := dt 85) rfl ⟨by omega, by (have z_ := unhid u13_; omega)⟩) ?_
            refine go_toq PM156 (k := 2) (pc' := 49) (L' := [some (.inr (.inr (some 79))), some (.inr (.inr (some 1007))), some (.inl l24_2), some (.inl l24_3)]) (st' := [.inl l24_3, .inr (.inr (some 1007)), .inl (dt 85 (((dt 79 15) + l24_3).toNat))]) (w' := (SH, dt)) rfl ?_
            refine go_callq PM156 PM250 (Q' := _) rfl rfl rfl rfl (sp_J0_charAt_5068e_7f L xs sio (d + 0) dt hI  l24_3 (by first | exact bnd i14 (by decide) (by decide) | exact bndd i14 c20 (by decide) (by decide) | exact ⟨by fail, by fail⟩) ) ?_
            rintro _ _ ⟨rfl, h23⟩
            refine ⟨rfl, ?_⟩
            rcases h23 with ⟨v_h23, rfl, h23r, h23⟩
            refine go_ifq PM156 (k := 0) (p1 := 59) (p2 := 55) (L' := [some (.inr (.inr (some 79))), some (.inr (.inr (some 1007))), some (.inl l24_2), some (.inl l24_3)]) (st' := []) (w' := (SH, dt)) rfl (c_ne (a := dt 85 (((dt 79 15) + l24_3).toNat)) (b := v_h23) (by first | exact bnd r22 (by decide) (by decide) | exact ⟨by fail, by fail⟩) (by first | exact bnd h23r (by decide) (by decide) | exact ⟨by fail, by fail⟩)) (fun c24 => ?_) (fun c24 => ?_)
            · skip
              replace c24 := hid c24
              refine go_toq PM156 (k := 4) (pc' := 24) (L' := [some (.inr (.inr (some 79))), some (.inr (.inr (some 1007))), some (.inl 0), some (.inl (l24_3 + 1))]) (st' := []) (w' := (SH, dt)) rfl ?_
              have u14_ := hid (And.intro (unhid c5) (And.intro (unhid i16) (And.intro (unhid i17) (And.intro (unhid c21) (unhid c24)))))
              exact GO.le (ih_loop18 0 (l24_3 + 1) (by first | omega | (intro z; first | fail | exact WQ_0 (by fail) (by fail) | exact WM_a ⟨by fail, by fail⟩ (by fail) | exact WQ_s (q1 (by fail)) ⟨by fail, by fail⟩ (mB_in (by fail) (by fail)).symm h23 (by fail) | exact WM_b ⟨by fail, by fail⟩ (by fail) (mB_in (by fail) (by fail)).symm h23 (by fail))) (by first | omega | (intro z; first | fail | exact WQ_0 (by fail) (by fail) | exact WM_a ⟨by fail, by fail⟩ (by fail) | exact WQ_s (q1 (by fail)) ⟨by fail, by fail⟩ (mB_in (by fail) (by fail)).symm h23 (by fail) | exact WM_b ⟨by fail, by fail⟩ (by fail) (mB_in (by fail) (by fail)).symm h23 (by fail))) (by first | omega | (intro z; first | fail | exact WQ_0 (by fail) (by fail) | exact WM_a ⟨by fail, by fail⟩ (by fail) | exact WQ_s (q1 (by fail)) ⟨by fail, by fail⟩ (mB_in (by fail) (by fail)).symm h23 (by fail) | exact WM_b ⟨by fail, by fail⟩ (by fail) (mB_in (by fail) (by fail)).symm h23 (by fail))) (by first | (have z_ := unhid u14_; omega) | (intro z; first | fail | exact WQ_0 (by fail) (by fail) | exact WM_a ⟨by fail, by fail⟩ (by fail) | exact WQ_s (q1 (by fail)) ⟨by fail, by fail⟩ (mB_in (by fail) (by fail)).symm h23 (by fail) | exact WM_b ⟨by fail, by fail⟩ (by fail) (mB_in (by fail) (by fail)).symm h23 (by fail))) (by first | omega | (intro z; first | fail | exact WQ_0 (by fail) (by fail) | exact WM_a ⟨by fail, by fail⟩ (by fail) | exact WQ_s (q1 (by fail)) ⟨by fail, by fail⟩ (mB_in (by fail) (by fail)).symm h23 (by fail) | exact WM_b ⟨by fail, by fail⟩ (by fail) (mB_in (by fail) (by fail)).symm h23 (by fail))) (by omega)) ⟨.inl rfl, .inl rfl, .inl rfl, .inl rfl, trivial⟩
            · skip
              refine go_toq PM156 (k := 5) (pc' := 24) (L' := [some (.inr (.inr (some 79))), some (.inr (.inr (some 1007))), some (.inl 1), some (.inl (l24_3 + 1))]) (st' := []) (w' := (SH, dt)) rfl ?_
              exact GO.le (ih_loop18 1 (l24_3 + 1) (by first | omega | (intro z; first | fail | exact WQ_0 (by fail) (by fail) | exact WM_a ⟨by fail, by fail⟩ (by fail) | exact WQ_s (q1 (by fail)) ⟨by fail, by fail⟩ (mB_in (by fail) (by fail)).symm h23 (by fail) | exact WM_b ⟨by fail, by fail⟩ (by fail) (mB_in (by fail) (by fail)).symm h23 (by fail))) (by first | omega | (intro z; first | fail | exact WQ_0 (by fail) (by fail) | exact WM_a ⟨by fail, by fail⟩ (by fail) | exact WQ_s (q1 (by fail)) ⟨by fail, by fail⟩ (mB_in (by fail) (by fail)).symm h23 (by fail) | exact WM_b ⟨by fail, by fail⟩ (by fail) (mB_in (by fail) (by fail)).symm h23 (by fail))) (by first | (have z_ := unhid u13_; omega) | (intro z; first | fail | exact WQ_0 (by fail) (by fail) | exact WM_a ⟨by fail, by fail⟩ (by fail) | exact WQ_s (q1 (by fail)) ⟨by fail, by fail⟩ (mB_in (by fail) (by fail)).symm h23 (by fail) | exact WM_b ⟨by fail, by fail⟩ (by fail) (mB_in (by fail) (by fail)).symm h23 (by fail))) (by first | omega | (intro z; first | fail | exact WQ_0 (by fail) (by fail) | exact WM_a ⟨by fail, by fail⟩ (by fail) | exact WQ_s (q1 (by fail)) ⟨by fail, by fail⟩ (mB_in (by fail) (by fail)).symm h23 (by fail) | exact WM_b ⟨by fail, by fail⟩ (by fail) (mB_in (by fail) (by fail)).symm h23 (by fail))) (by first | (have z_ := unhid u13_; omega) | (intro z; first | fail | exact WQ_0 (by fail) (by fail) | exact WM_a ⟨by fail, by fail⟩ (by fail) | exact WQ_s (q1 (by fail)) ⟨by fail, by fail⟩ (mB_in (by fail) (by fail)).symm h23 (by fail) | exact WM_b ⟨by fail, by fail⟩ (by fail) (mB_in (by fail) (by fail)).symm h23 (by fail))) (by omega)) ⟨.inl rfl, .inl rfl, .inl rfl, .inl rfl, trivial⟩
    exact GO.le (loop18 _ 0 0 (by first | omega | (intro z; first | fail | exact WQ_0 (by fail) (by fail) | exact WM_a ⟨by fail, by fail⟩ (by fail) | exact WQ_s (q1 (by fail)) ⟨by fail, by fail⟩ (mB_in (by fail) (by fail)).symm hI (by fail) | exact WM_b ⟨by fail, by fail⟩ (by fail) (mB_in (by fail) (by fail)).symm hI (by fail))) (by first | omega | (intro z; first | fail | exact WQ_0 (by fail) (by fail) | exact WM_a ⟨by fail, by fail⟩ (by fail) | exact WQ_s (q1 (by fail)) ⟨by fail, by fail⟩ (mB_in (by fail) (by fail)).symm hI (by fail) | exact WM_b ⟨by fail, by fail⟩ (by fail) (mB_in (by fail) (by fail)).symm hI (by fail))) (by first | omega | (intro z; first | fail | exact WQ_0 (by fail) (by fail) | exact WM_a ⟨by fail, by fail⟩ (by fail) | exact WQ_s (q1 (by fail)) ⟨by fail, by fail⟩ (mB_in (by fail) (by fail)).symm hI (by fail) | exact WM_b ⟨by fail, by fail⟩ (by fail) (mB_in (by fail) (by fail)).symm hI (by fail))) (by first | fail | (intro z; first | fail | exact WQ_0 (by fail) (by fail) | exact WM_a ⟨by omega, by omega⟩ (by (have z0_ := unhid c5; omega)) | exact WQ_s (q1 (by fail)) ⟨by fail, by fail⟩ (mB_in (by fail) (by fail)).symm hI (by fail) | exact WM_b ⟨by fail, by fail⟩ (by fail) (mB_in (by fail) (by fail)).symm hI (by fail))) (by first | omega | (intro z; first | fail | exact WQ_0 (by fail) (by fail) | exact WM_a ⟨by fail, by fail⟩ (by fail) | exact WQ_s (q1 (by fail)) ⟨by fail, by fail⟩ (mB_in (by fail) (by fail)).symm hI (by fail) | exact WM_b ⟨by fail, by fail⟩ (by fail) (mB_in (by fail) (by fail)).symm hI (by fail))) (Nat.lt_succ_self _)) ⟨.inl rfl, .inl rfl, .inl rfl, .inl rfl, trivial⟩
  · skip
    refine go_toq PM156 (k := 5) (pc' := 24) (L' := [some (.inr (.inr (some 79))), some (.inr (.inr (some 1007))), some (.inl 1), some (.inl 0)]) (st' := []) (w' := (SH, dt)) rfl ?_
    have loop37 : ∀ (k_ : Nat) (l24_2 : Int) (l24_3 : Int) (i32 : 0 ≤ l24_2 ∧ l24_2 ≤ 1) (i33 : 0 ≤ l24_3 ∧ l24_3 ≤ 4) (i34 : l24_2 = 1 → WQ (am_Sby.getD 7 []) (dt 79 13 - dt 79 15) (mB (dt 85) (dt 79 12)) (dt 79 15) l24_3) (i35 : l24_2 = 0 → wm (am_Sby.getD 7 []) (mB (dt 85) (dt 79 12)) (dt 79 15).toNat (dt 79 13).toNat = 0) (i36 : l24_2 = 0 ∨ dt 79 13 - dt 79 15 = 4), (5 - l24_3).toNat < k_ → GO (am_XX L xs sio) (d + 4) 156 24 [some (.inr (.inr (some 79))), some (.inr (.inr (some 1007))), some (.inl l24_2), some (.inl l24_3)] [] (SH, dt) (fun r w2 => w2 = (SH, dt) ∧ ((∃ v : Int, r = some (.inl v) ∧ (0 ≤ v ∧ v ≤ 1) ∧ (v = wm (am_Sby.getD 7 []) (mB (dt 85) (dt 79 12)) (dt 79 15).toNat (dt 79 13).toNat)))) := by
      intro k_
      induction k_ with
      | zero => intro l24_2 l24_3 i32 i33 i34 i35 i36 hm; exact absurd hm (Nat.not_lt_zero _)
      | succ k_ ih_loop37 =>
        intro l24_2 l24_3 i32 i33 i34 i35 i36 hm
        replace i34 := hid i34
        replace i35 := hid i35
        replace i36 := hid i36
        have q1 := i34
        have q2 := i35
        refine go_toq PM156 (k := 2) (pc' := 26) (L' := [some (.inr (.inr (some 79))), some (.inr (.inr (some 1007))), some (.inl l24_2), some (.inl l24_3)]) (st' := [.inr (.inr (some 1007)), .inl l24_3]) (w' := (SH, dt)) rfl ?_
        refine go_callq PM156 PM249 (Q' := _) rfl rfl rfl rfl (sp_J0_length_8abf5_1007 L xs sio (d + 2) dt hI   ) ?_
        rintro _ _ ⟨rfl, h38⟩
        refine ⟨rfl, ?_⟩
        rcases h38 with ⟨rfl, h38⟩
        refine go_ifq PM156 (k := 0) (p1 := 67) (p2 := 32) (L' := [some (.inr (.inr (some 79))), some (.inr (.inr (some 1007))), some (.inl l24_2), some (.inl l24_3)]) (st' := []) (w' := (SH, dt)) rfl (c_ge (a := l24_3) (b := 4) (by first | exact bnd i33 (by decide) (by decide) | exact ⟨by fail, by fail⟩) ⟨by decide, by decide⟩) (fun c39 => ?_) (fun c39 => ?_)
        · skip
          refine go_toq PM156 (k := 1) (pc' := 68) (L' := [some (.inr (.inr (some 79))), some (.inr (.inr (some 1007))), some (.inl l24_2), some (.inl l24_3)]) (st' := [.inl l24_2]) (w' := (SH, dt)) rfl ?_
          refine go_retvq PM156 (v := l24_2) rfl (decide_eq_true (show l24_2 = 0 ∨ l24_2 = 1 by omega)) ?_
          exact ⟨rfl, ⟨_, rfl, ⟨by omega, by omega⟩, by rcases (show l24_2 = 0 ∨ l24_2 = 1 by omega) with z | z <;> first | (rw [q2 z]; exact z) | (rw [WM_1 (q1 z) ⟨by omega, by omega⟩ (by omega)]; exact z)⟩⟩
        · skip
          refine go_ifq PM156 (k := 1) (p1 := 67) (p2 := 36) (L' := [some (.inr (.inr (some 79))), some (.inr (.inr (some 1007))), some (.inl l24_2), some (.inl l24_3)]) (st' := []) (w' := (SH, dt)) rfl (z_eq (a := l24_2) (by first | exact bnd i32 (by decide) (by decide) | exact ⟨by fail, by fail⟩)) (fun c40 => ?_) (fun c40 => ?_)
          · skip
            refine go_toq PM156 (k := 1) (pc' := 68) (L' := [some (.inr (.inr (some 79))), some (.inr (.inr (some 1007))), some (.inl l24_2), some (.inl l24_3)]) (st' := [.inl l24_2]) (w' := (SH, dt)) rfl ?_
            refine go_retvq PM156 (v := l24_2) rfl (decide_eq_true (show l24_2 = 0 ∨ l24_2 = 1 by omega)) ?_
            exact ⟨rfl, ⟨_, rfl, ⟨by omega, by omega⟩, by rcases (show l24_2 = 0 ∨ l24_2 = 1 by omega) with z | z <;> first | (rw [q2 z]; exact z) | (rw [WM_1 (q1 z) ⟨by omega, by omega⟩ (by omega)]; exact z)⟩⟩
          · skip
            replace c40 := hid c40
            refine go_toq PM156 (k := 6) (pc' := 46) (L' := [some (.inr (.inr (some 79))), some (.inr (.inr (some 1007))), some (.inl l24_2), some (.inl l24_3)]) (st' := [.inl ((dt 79 15) + l24_3), .inr (.inr (some 85))]) (w' := (SH, dt)) rfl ?_
            have r41 : 0 ≤ dt 85 (((dt 79 15) + l24_3).toNat) ∧ dt 85 (((dt 79 15) + l24_3).toNat) ≤ 255 := InvC_get hI 85 (((dt 79 15) + l24_3).toNat) rfl rfl
            refine go_smpq PM156 (L' := [some (.inr (.inr (some 79))), some (.inr (.inr (some 1007))), some (.inl l24_2), some (.inl l24_3)]) (st' := [.inl (dt 85 (((dt 79 15) + l24_3).toNat))]) (w' := (SH, dt)) rfl rfl (s_iald (n := 500) (f := dt 85) rfl ⟨by omega, by omega⟩) ?_
            refine go_toq PM156 (k := 2) (pc' := 49) (L' := [some (.inr (.inr (some 79))), some (.inr (.inr (some 1007))), some (.inl l24_2), some (.inl l24_3)]) (st' := [.inl l24_3, .inr (.inr (some 1007)), .inl (dt 85 (((dt 79 15) + l24_3).toNat))]) (w' := (SH, dt)) rfl ?_
            refine go_callq PM156 PM250 (Q' := _) rfl rfl rfl rfl (sp_J0_charAt_5068e_7f L xs sio (d + 0) dt hI  l24_3 (by first | exact bnd i33 (by decide) (by decide) | exact bndd i33 c39 (by decide) (by decide) | exact ⟨by fail, by fail⟩) ) ?_
            rintro _ _ ⟨rfl, h42⟩
            refine ⟨rfl, ?_⟩
            rcases h42 with ⟨v_h42, rfl, h42r, h42⟩
            refine go_ifq PM156 (k := 0) (p1 := 59) (p2 := 55) (L' := [some (.inr (.inr (some 79))), some (.inr (.inr (some 1007))), some (.inl l24_2), some (.inl l24_3)]) (st' := []) (w' := (SH, dt)) rfl (c_ne (a := dt 85 (((dt 79 15) + l24_3).toNat)) (b := v_h42) (by first | exact bnd r41 (by decide) (by decide) | exact ⟨by fail, by fail⟩) (by first | exact bnd h42r (by decide) (by decide) | exact ⟨by fail, by fail⟩)) (fun c43 => ?_) (fun c43 => ?_)
            · skip
              replace c43 := hid c43
              refine go_toq PM156 (k := 4) (pc' := 24) (L' := [some (.inr (.inr (some 79))), some (.inr (.inr (some 1007))), some (.inl 0), some (.inl (l24_3 + 1))]) (st' := []) (w' := (SH, dt)) rfl ?_
              have u15_ := hid (And.intro (unhid i35) (And.intro (unhid i36) (And.intro (unhid c40) (unhid c43))))
              exact GO.le (ih_loop37 0 (l24_3 + 1) (by first | omega | (intro z; first | fail | exact WQ_0 (by fail) (by fail) | exact WM_a ⟨by fail, by fail⟩ (by fail) | exact WQ_s (q1 (by fail)) ⟨by fail, by fail⟩ (mB_in (by fail) (by fail)).symm h42 (by fail) | exact WM_b ⟨by fail, by fail⟩ (by fail) (mB_in (by fail) (by fail)).symm h42 (by fail))) (by first | omega | (intro z; first | fail | exact WQ_0 (by fail) (by fail) | exact WM_a ⟨by fail, by fail⟩ (by fail) | exact WQ_s (q1 (by fail)) ⟨by fail, by fail⟩ (mB_in (by fail) (by fail)).symm h42 (by fail) | exact WM_b ⟨by fail, by fail⟩ (by fail) (mB_in (by fail) (by fail)).symm h42 (by fail))) (by first | omega | (intro z; first | fail | exact WQ_0 (by fail) (by fail) | exact WM_a ⟨by fail, by fail⟩ (by fail) | exact WQ_s (q1 (by fail)) ⟨by fail, by fail⟩ (mB_in (by fail) (by fail)).symm h42 (by fail) | exact WM_b ⟨by fail, by fail⟩ (by fail) (mB_in (by fail) (by fail)).symm h42 (by fail))) (by first | fail | (intro z; first | fail | exact WQ_0 (by fail) (by fail) | exact WM_a ⟨by omega, by omega⟩ (by fail) | exact WQ_s (q1 (by (have z_ := unhid u15_; omega))) ⟨by omega, by omega⟩ (mB_in (by omega) (by omega)).symm h42 (by fail) | exact WM_b ⟨by omega, by omega⟩ (by omega) (mB_in (by omega) (by omega)).symm h42 (by (have z_ := unhid u15_; omega)))) (by first | omega | (intro z; first | fail | exact WQ_0 (by fail) (by fail) | exact WM_a ⟨by fail, by fail⟩ (by fail) | exact WQ_s (q1 (by fail)) ⟨by fail, by fail⟩ (mB_in (by fail) (by fail)).symm h42 (by fail) | exact WM_b ⟨by fail, by fail⟩ (by fail) (mB_in (by fail) (by fail)).symm h42 (by fail))) (by omega)) ⟨.inl rfl, .inl rfl, .inl rfl, .inl rfl, trivial⟩
            · skip
              refine go_toq PM156 (k := 5) (pc' := 24) (L' := [some (.inr (.inr (some 79))), some (.inr (.inr (some 1007))), some (.inl 1), some (.inl (l24_3 + 1))]) (st' := []) (w' := (SH, dt)) rfl ?_
              exact GO.le (ih_loop37 1 (l24_3 + 1) (by first | omega | (intro z; first | fail | exact WQ_0 (by fail) (by fail) | exact WM_a ⟨by fail, by fail⟩ (by fail) | exact WQ_s (q1 (by fail)) ⟨by fail, by fail⟩ (mB_in (by fail) (by fail)).symm h42 (by fail) | exact WM_b ⟨by fail, by fail⟩ (by fail) (mB_in (by fail) (by fail)).symm h42 (by fail))) (by first | omega | (intro z; first | fail | exact WQ_0 (by fail) (by fail) | exact WM_a ⟨by fail, by fail⟩ (by fail) | exact WQ_s (q1 (by fail)) ⟨by fail, by fail⟩ (mB_in (by fail) (by fail)).symm h42 (by fail) | exact WM_b ⟨by fail, by fail⟩ (by fail) (mB_in (by fail) (by fail)).symm h42 (by fail))) (by first | fail | (intro z; first | fail | exact WQ_0 (by omega) (by fail) | exact WM_a ⟨by fail, by fail⟩ (by fail) | exact WQ_s (q1 (by (have z0_ := unhid i35; have z1_ := unhid i36; have z2_ := unhid c40; omega))) ⟨by omega, by omega⟩ (mB_in (by omega) (by omega)).symm h42 (by omega) | exact WM_b ⟨by fail, by fail⟩ (by fail) (mB_in (by fail) (by fail)).symm h42 (by fail))) (by first | omega | (intro z; first | fail | exact WQ_0 (by fail) (by fail) | exact WM_a ⟨by fail, by fail⟩ (by fail) | exact WQ_s (q1 (by fail)) ⟨by fail, by fail⟩ (mB_in (by fail) (by fail)).symm h42 (by fail) | exact WM_b ⟨by fail, by fail⟩ (by fail) (mB_in (by fail) (by fail)).symm h42 (by fail))) (by first | omega | (intro z; first | fail | exact WQ_0 (by fail) (by fail) | exact WM_a ⟨by fail, by fail⟩ (by fail) | exact WQ_s (q1 (by fail)) ⟨by fail, by fail⟩ (mB_in (by fail) (by fail)).symm h42 (by fail) | exact WM_b ⟨by fail, by fail⟩ (by fail) (mB_in (by fail) (by fail)).symm h42 (by fail))) (by omega)) ⟨.inl rfl, .inl rfl, .inl rfl, .inl rfl, trivial⟩
    exact GO.le (loop37 _ 1 0 (by first | omega | (intro z; first | fail | exact WQ_0 (by fail) (by fail) | exact WM_a ⟨by fail, by fail⟩ (by fail) | exact WQ_s (q1 (by fail)) ⟨by fail, by fail⟩ (mB_in (by fail) (by fail)).symm hI (by fail) | exact WM_b ⟨by fail, by fail⟩ (by fail) (mB_in (by fail) (by fail)).symm hI (by fail))) (by first | omega | (intro z; first | fail | exact WQ_0 (by fail) (by fail) | exact WM_a ⟨by fail, by fail⟩ (by fail) | exact WQ_s (q1 (by fail)) ⟨by fail, by fail⟩ (mB_in (by fail) (by fail)).symm hI (by fail) | exact WM_b ⟨by fail, by fail⟩ (by fail) (mB_in (by fail) (by fail)).symm hI (by fail))) (by first | fail | (intro z; first | fail | exact WQ_0 (by omega) (by omega) | exact WM_a ⟨by fail, by fail⟩ (by fail) | exact WQ_s (q1 (by fail)) ⟨by fail, by fail⟩ (mB_in (by fail) (by fail)).symm hI (by fail) | exact WM_b ⟨by fail, by fail⟩ (by fail) (mB_in (by fail) (by fail)).symm hI (by fail))) (by first | omega | (intro z; first | fail | exact WQ_0 (by fail) (by fail) | exact WM_a ⟨by fail, by fail⟩ (by fail) | exact WQ_s (q1 (by fail)) ⟨by fail, by fail⟩ (mB_in (by fail) (by fail)).symm hI (by fail) | exact WM_b ⟨by fail, by fail⟩ (by fail) (mB_in (by fail) (by fail)).symm hI (by fail))) (by first | omega | (intro z; first | fail | exact WQ_0 (by fail) (by fail) | exact WM_a ⟨by fail, by fail⟩ (by fail) | exact WQ_s (q1 (by fail)) ⟨by fail, by fail⟩ (mB_in (by fail) (by fail)).symm hI (by fail) | exact WM_b ⟨by fail, by fail⟩ (by fail) (mB_in (by fail) (by fail)).symm hI (by fail))) (Nat.lt_succ_self _)) ⟨.inl rfl, .inl rfl, .inl rfl, .inl rfl, trivial⟩
theorem sp_J1_charAt_3b067_8f (L : Nat) (xs : Nat → Int32) (sio : Option Nat) (d : Nat) (dt : Nat → Nat → Int) (hI : InvC dt)  (p2 : Int) (h_p2 : 0 ≤ p2 ∧ p2 ≤ 3)  : GO (am_XX L xs sio) (d + 2) 256 0 [some (.inr (.inr (some 2008))), some (.inl p2)] [] (SH, dt) (fun r w2 => w2 = (SH, dt) ∧ ((∃ v : Int, r = some (.inl v) ∧ (0 ≤ v ∧ v ≤ 65535) ∧ (v = (am_Sby.getD 8 []).getD p2.toNat 0)))) := by
  refine go_toq PM256 (k := 3) (pc' := 3) (L' := [some (.inr (.inr (some 2008))), some (.inl p2)]) (st' := [.inl 4, .inl p2]) (w' := (SH, dt)) rfl ?_
  refine go_callq PM256 PM255 (Q' := _) rfl rfl rfl rfl (sp_J0_checkIndex_df160 L xs sio (d + 0) dt hI  p2 (by first | exact h_p2 | exact bnd h_p2 (by decide) (by decide) | exact ⟨by fail, by fail⟩) 4 ⟨by decide, by decide⟩ (by first | exact True.intro | with_reducible assumption | rfl | omega | trivial)) ?_
  rintro _ _ ⟨rfl, h1⟩
  refine ⟨rfl, ?_⟩
  rcases h1 with ⟨rfl, h1⟩
  refine go_toq PM256 (k := 2) (pc' := 8) (L' := [some (.inr (.inr (some 2008))), some (.inl p2)]) (st' := [.inl p2, .inr (.inr (some 2008))]) (w' := (SH, dt)) rfl ?_
  have r2 := sby_R 8 (p2).toNat
  refine go_smpq PM256 (L' := [some (.inr (.inr (some 2008))), some (.inl p2)]) (st' := [.inl ((am_Sby.getD 8 []).getD (p2).toNat 0)]) (w' := (SH, dt)) rfl rfl (s_bald (n := 4) (f := fun q => (am_Sby.getD 8 []).getD q 0) rfl (by first | exact bndx h_p2 (by decide) (by decide) | exact ⟨by fail, by fail⟩)) ?_
  have r3 : 0 ≤ am_and ((am_Sby.getD 8 []).getD (p2).toNat 0) 255 ∧ am_and ((am_Sby.getD 8 []).getD (p2).toNat 0) 255 ≤ 255 := and_R255
  have r4 := i2c_R (am_and ((am_Sby.getD 8 []).getD (p2).toNat 0) 255)
  refine go_toq PM256 (k := 3) (pc' := 14) (L' := [some (.inr (.inr (some 2008))), some (.inl p2)]) (st' := [.inl (am_i2c (am_and ((am_Sby.getD 8 []).getD (p2).toNat 0) 255))]) (w' := (SH, dt)) rfl ?_
  refine go_retvq PM256 (v := am_i2c (am_and ((am_Sby.getD 8 []).getD (p2).toNat 0) 255)) rfl (decide_eq_true (show 0 ≤ am_i2c (am_and ((am_Sby.getD 8 []).getD (p2).toNat 0) 255) ∧ am_i2c (am_and ((am_Sby.getD 8 []).getD (p2).toNat 0) 255) < 65536 by omega)) ?_
  exact ⟨rfl, ⟨_, rfl, ⟨by omega, by omega⟩, by exact ic_id ⟨by omega, by omega⟩⟩⟩
theorem sp_J0_charAt_5068e_8f (L : Nat) (xs : Nat → Int32) (sio : Option Nat) (d : Nat) (dt : Nat → Nat → Int) (hI : InvC dt)  (p1 : Int) (h_p1 : 0 ≤ p1 ∧ p1 ≤ 3)  : GO (am_XX L xs sio) (d + 3) 250 0 [some (.inr (.inr (some 1008))), some (.inl p1)] [] (SH, dt) (fun r w2 => w2 = (SH, dt) ∧ ((∃ v : Int, r = some (.inl v) ∧ (0 ≤ v ∧ v ≤ 65535) ∧ (v = (am_Sby.getD 8 []).getD p1.toNat 0)))) := by
  refine go_toq PM250 (k := 1) (pc' := 1) (L' := [some (.inr (.inr (some 1008))), some (.inl p1)]) (st' := [.inr (.inr (some 1008))]) (w' := (SH, dt)) rfl ?_
  refine go_callq PM250 PM254 (Q' := _) rfl rfl rfl rfl (sp_J0_isLatin1_aae02_1008 L xs sio (d + 2) dt hI   ) ?_
  rintro _ _ ⟨rfl, h1⟩
  refine ⟨rfl, ?_⟩
  rcases h1 with ⟨rfl, h1⟩
  refine go_toq PM250 (k := 4) (pc' := 12) (L' := [some (.inr (.inr (some 1008))), some (.inl p1)]) (st' := [.inl p1, .inr (.inr (some 2008))]) (w' := (SH, dt)) rfl ?_
  refine go_callq PM250 PM256 (Q' := _) rfl rfl rfl rfl (sp_J1_charAt_3b067_8f L xs sio (d + 0) dt hI  p1 (by first | exact h_p1 | exact bnd h_p1 (by decide) (by decide) | exact ⟨by fail, by fail⟩) ) ?_
  rintro _ _ ⟨rfl, h2⟩
  refine ⟨rfl, ?_⟩
  rcases h2 with ⟨v_h2, rfl, h2r, h2⟩
  refine go_retvq PM250 (v := v_h2) rfl (decide_eq_true (show 0 ≤ v_h2 ∧ v_h2 < 65536 by omega)) ?_
  exact ⟨rfl, ⟨_, rfl, ⟨by omega, by omega⟩, by first | exact True.intro | with_reducible assumption | rfl | fail | trivial⟩⟩
set_option maxRecDepth 20000 in
theorem sp_X6_is_8f (L : Nat) (xs : Nat → Int32) (sio : Option Nat) (d : Nat) (dt : Nat → Nat → Int) (hI : InvC dt)   (h_p0 : dt 79 13 ≤ 500) (h_p1 : dt 79 15 ≤ dt 79 13) (h_p2 : dt 79 13 ≤ dt 79 12) : GO (am_XX L xs sio) (d + 4) 156 0 [some (.inr (.inr (some 79))), some (.inr (.inr (some 1008))), none, none] [] (SH, dt) (fun r w2 => w2 = (SH, dt) ∧ ((∃ v : Int, r = some (.inl v) ∧ (0 ≤ v ∧ v ≤ 1) ∧ (v = wm (am_Sby.getD 8 []) (mB (dt 85) (dt 79 12)) (dt 79 15).toNat (dt 79 13).toNat)))) := by
  have r1 : 0 ≤ dt 79 13 ∧ dt 79 13 ≤ 501 := InvC_get hI 79 13 rfl rfl
  have r2 : 0 ≤ dt 79 15 ∧ dt 79 15 ≤ 500 := InvC_get hI 79 15 rfl rfl
  have r3 : 0 ≤ dt 79 12 ∧ dt 79 12 ≤ 500 := InvC_get hI 79 12 rfl rfl
  have hlen : (((am_Sby.getD 8 []).length : Nat) : Int) = 4 := rfl
  refine go_toq PM156 (k := 6) (pc' := 10) (L' := [some (.inr (.inr (some 79))), some (.inr (.inr (some 1008))), none, none]) (st' := [.inr (.inr (some 1008)), .inl ((dt 79 13) - (dt 79 15))]) (w' := (SH, dt)) rfl ?_
  refine go_callq PM156 PM249 (Q' := _) rfl rfl rfl rfl (sp_J0_length_8abf5_1008 L xs sio (d + 2) dt hI   ) ?_
  rintro _ _ ⟨rfl, h4⟩
  refine ⟨rfl, ?_⟩
  rcases h4 with ⟨rfl, h4⟩
  refine go_ifq PM156 (k := 0) (p1 := 20) (p2 := 16) (L' := [some (.inr (.inr (some 79))), some (.inr (.inr (some 1008))), none, none]) (st' := []) (w' := (SH, dt)) rfl (c_ne (a := (dt 79 13) - (dt 79 15)) (b := 4) ⟨by omega, by omega⟩ ⟨by decide, by decide⟩) (fun c5 => ?_) (fun c5 => ?_)
  · skip
    replace c5 := hid c5
    refine go_toq PM156 (k := 4) (pc' := 24) (L' := [some (.inr (.inr (some 79))), some (.inr (.inr (some 1008))), some (.inl 0), some (.inl 0)]) (st' := []) (w' := (SH, dt)) rfl ?_
    have loop18 : ∀ (k_ : Nat) (l24_2 : Int) (l24_3 : Int) (i13 : 0 ≤ l24_2 ∧ l24_2 ≤ 1) (i14 : 0 ≤ l24_3 ∧ l24_3 ≤ 4) (i15 : l24_2 = 1 → WQ (am_Sby.getD 8 []) (dt 79 13 - dt 79 15) (mB (dt 85) (dt 79 12)) (dt 79 15) l24_3) (i16 : l24_2 = 0 → wm (am_Sby.getD 8 []) (mB (dt 85) (dt 79 12)) (dt 79 15).toNat (dt 79 13).toNat = 0) (i17 : l24_2 = 0 ∨ dt 79 13 - dt 79 15 = 4), (5 - l24_3).toNat < k_ → GO (am_XX L xs sio) (d + 4) 156 24 [some (.inr (.inr (some 79))), some (.inr (.inr (some 1008))), some (.inl l24_2), some (.inl l24_3)] [] (SH, dt) (fun r w2 => w2 = (SH, dt) ∧ ((∃ v : Int, r = some (.inl v) ∧ (0 ≤ v ∧ v ≤ 1) ∧ (v = wm (am_Sby.getD 8 []) (mB (dt 85) (dt 79 12)) (dt 79 15).toNat (dt 79 13).toNat)))) := by
      intro k_
      induction k_ with
      | zero => intro l24_2 l24_3 i13 i14 i15 i16 i17 hm; exact absurd hm (Nat.not_lt_zero _)
      | succ k_ ih_loop18 =>
        intro l24_2 l24_3 i13 i14 i15 i16 i17 hm
        replace i15 := hid i15
        replace i16 := hid i16
        replace i17 := hid i17
        have q1 := i15
        have q2 := i16
        refine go_toq PM156 (k := 2) (pc' := 26) (L' := [some (.inr (.inr (some 79))), some (.inr (.inr (some 1008))), some (.inl l24_2), some (.inl l24_3)]) (st' := [.inr (.inr (some 1008)), .inl l24_3]) (w' := (SH, dt)) rfl ?_
        refine go_callq PM156 PM249 (Q' := _) rfl rfl rfl rfl (sp_J0_length_8abf5_1008 L xs sio (d + 2) dt hI   ) ?_
        rintro _ _ ⟨rfl, h19⟩
        refine ⟨rfl, ?_⟩
        rcases h19 with ⟨rfl, h19⟩
        refine go_ifq PM156 (k := 0) (p1 := 67) (p2 := 32) (L' := [some (.inr (.inr (some 79))), some (.inr (.inr (some 1008))), some (.inl l24_2), some (.inl l24_3)]) (st' := []) (w' := (SH, dt)) rfl (c_ge (a := l24_3) (b := 4) (by first | exact bnd i14 (by decide) (by decide) | exact ⟨by fail, by fail⟩) ⟨by decide, by decide⟩) (fun c20 => ?_) (fun c20 => ?_)
        · skip
          refine go_toq PM156 (k := 1) (pc' := 68) (L' := [some (.inr (.inr (some 79))), some (.inr (.inr (some 1008))), some (.inl l24_2), some (.inl l24_3)]) (st' := [.inl l24_2]) (w' := (SH, dt)) rfl ?_
          refine go_retvq PM156 (v := l24_2) rfl (decide_eq_true (show l24_2 = 0 ∨ l24_2 = 1 by omega)) ?_
          exact ⟨rfl, ⟨_, rfl, ⟨by omega, by omega⟩, by rcases (show l24_2 = 0 ∨ l24_2 = 1 by omega) with z | z <;> first | (rw [q2 z]; exact z) | (rw [WM_1 (q1 z) ⟨by omega, by omega⟩ (by omega)]; exact z)⟩⟩
        · skip
          refine go_ifq PM156 (k := 1) (p1 := 67) (p2 := 36) (L' := [some (.inr (.inr (some 79))), some (.inr (.inr (some 1008))), some (.inl l24_2), some (.inl l24_3)]) (st' := []) (w' := (SH, dt)) rfl (z_eq (a := l24_2) (by first | exact bnd i13 (by decide) (by decide) | exact ⟨by fail, by fail⟩)) (fun c21 => ?_) (fun c21 => ?_)
          · skip
            refine go_toq PM156 (k := 1) (pc' := 68) (L' := [some (.inr (.inr (some 79))), some (.inr (.inr (some 1008))), some (.inl l24_2), some (.inl l24_3)]) (st' := [.inl l24_2]) (w' := (SH, dt)) rfl ?_
            refine go_retvq PM156 (v := l24_2) rfl (decide_eq_true (show l24_2 = 0 ∨ l24_2 = 1 by omega)) ?_
            exact ⟨rfl, ⟨_, rfl, ⟨by omega, by omega⟩, by rcases (show l24_2 = 0 ∨ l24_2 = 1 by omega) with z | z <;> first | (rw [q2 z]; exact z) | (rw [WM_1 (q1 z) ⟨by omega, by omega⟩ (by omega)]; exact z)⟩⟩
          · skip
            replace c21 := hid c21
            refine go_toq PM156 (k := 6) (pc' := 46) (L' := [some (.inr (.inr (some 79))), some (.inr (.inr (some 1008))), some (.inl l24_2), some (.inl l24_3)]) (st' := [.inl ((dt 79 15) + l24_3), .inr (.inr (some 85))]) (w' := (SH, dt)) rfl ?_
            have r22 : 0 ≤ dt 85 (((dt 79 15) + l24_3).toNat) ∧ dt 85 (((dt 79 15) + l24_3).toNat) ≤ 255 := InvC_get hI 85 (((dt 79 15) + l24_3).toNat) rfl rfl
            have u16_ := hid (And.intro (unhid c5) (And.intro (unhid i16) (And.intro (unhid i17) (unhid c21))))
            refine go_smpq PM156 (L' := [some (.inr (.inr (some 79))), some (.inr (.inr (some 1008))), some (.inl l24_2), some (.inl l24_3)]) (st' := [.inl (dt 85 (((dt 79 15) + l24_3).toNat))]) (w' := (SH, dt)) rfl rfl (s_iald (n := 500) (f := dt 85) rfl ⟨by omega, by (have z_ := unhid u16_; omega)⟩) ?_
            refine go_toq PM156 (k := 2) (pc' := 49) (L' := [some (.inr (.inr (some 79))), some (.inr (.inr (some 1008))), some (.inl l24_2), some (.inl l24_3)]) (st' := [.inl l24_3, .inr (.inr (some 1008)), .inl (dt 85 (((dt 79 15) + l24_3).toNat))]) (w' := (SH, dt)) rfl ?_
            refine go_callq PM156 PM250 (Q' := _) rfl rfl rfl rfl (sp_J0_charAt_5068e_8f L xs sio (d + 0) dt hI  l24_3 (by first | exact bnd i14 (by decide) (by decide) | exact bndd i14 c20 (by decide) (by decide) | exact ⟨by fail, by fail⟩) ) ?_
            rintro _ _ ⟨rfl, h23⟩
            refine ⟨rfl, ?_⟩
            rcases h23 with ⟨v_h23, rfl, h23r, h23⟩
            refine go_ifq PM156 (k := 0) (p1 := 59) (p2 := 55) (L' := [some (.inr (.inr (some 79))), some (.inr (.inr (some 1008))), some (.inl l24_2), some (.inl l24_3)]) (st' := []) (w' := (SH, dt)) rfl (c_ne (a := dt 85 (((dt 79 15) + l24_3).toNat)) (b := v_h23) (by first | exact bnd r22 (by decide) (by decide) | exact ⟨by fail, by fail⟩) (by first | exact bnd h23r (by decide) (by decide) | exact ⟨by fail, by fail⟩)) (fun c24 => ?_) (fun c24 => ?_)
            · skip
              replace c24 := hid c24
              refine go_toq PM156 (k := 4) (pc' := 24) (L' := [some (.inr (.inr (some 79))), some (.inr (.inr (some 1008))), some (.inl 0), some (.inl (l24_3 + 1))]) (st' := []) (w' := (SH, dt)) rfl ?_
              have u17_ := hid (And.intro (unhid c5) (And.intro (unhid i16) (And.intro (unhid i17) (And.intro (unhid c21) (unhid c24)))))
              exact GO.le (ih_loop18 0 (l24_3 + 1) (by first | omega | (intro z; first | fail | exact WQ_0 (by fail) (by fail) | exact WM_a ⟨by fail, by fail⟩ (by fail) | exact WQ_s (q1 (by fail)) ⟨by fail, by fail⟩ (mB_in (by fail) (by fail)).symm h23 (by fail) | exact WM_b ⟨by fail, by fail⟩ (by fail) (mB_in (by fail) (by fail)).symm h23 (by fail))) (by first | omega | (intro z; first | fail | exact WQ_0 (by fail) (by fail) | exact WM_a ⟨by fail, by fail⟩ (by fail) | exact WQ_s (q1 (by fail)) ⟨by fail, by fail⟩ (mB_in (by fail) (by fail)).symm h23 (by fail) | exact WM_b ⟨by fail, by fail⟩ (by fail) (mB_in (by fail) (by fail)).symm h23 (by fail))) (by first | omega | (intro z; first | fail | exact WQ_0 (by fail) (by fail) | exact WM_a ⟨by fail, by fail⟩ (by fail) | exact WQ_s (q1 (by fail)) ⟨by fail, by fail⟩ (mB_in (by fail) (by fail)).symm h23 (by fail) | exact WM_b ⟨by fail, by fail⟩ (by fail) (mB_in (by fail) (by fail)).symm h23 (by fail))) (by first | (have z_ := unhid u17_; omega) | (intro z; first | fail | exact WQ_0 (by fail) (by fail) | exact WM_a ⟨by fail, by fail⟩ (by fail) | exact WQ_s (q1 (by fail)) ⟨by fail, by fail⟩ (mB_in (by fail) (by fail)).symm h23 (by fail) | exact WM_b ⟨by fail, by fail⟩ (by fail) (mB_in (by fail) (by fail)).symm h23 (by fail))) (by first | omega | (intro z; first | fail | exact WQ_0 (by fail) (by fail) | exact WM_a ⟨by fail, by fail⟩ (by fail) | exact WQ_s (q1 (by fail)) ⟨by fail, by fail⟩ (mB_in (by fail) (by fail)).symm h23 (by fail) | exact WM_b ⟨by fail, by fail⟩ (by fail) (mB_in (by fail) (by fail)).symm h23 (by fail))) (by omega)) ⟨.inl rfl, .inl rfl, .inl rfl, .inl rfl, trivial⟩
            · skip
              refine go_toq PM156 (k := 5) (pc' := 24) (L' := [some (.inr (.inr (some 79))), some (.inr (.inr (some 1008))), some (.inl 1), some (.inl (l24_3 + 1))]) (st' := []) (w' := (SH, dt)) rfl ?_
              exact GO.le (ih_loop18 1 (l24_3 + 1) (by first | omega | (intro z; first | fail | exact WQ_0 (by fail) (by fail) | exact WM_a ⟨by fail, by fail⟩ (by fail) | exact WQ_s (q1 (by fail)) ⟨by fail, by fail⟩ (mB_in (by fail) (by fail)).symm h23 (by fail) | exact WM_b ⟨by fail, by fail⟩ (by fail) (mB_in (by fail) (by fail)).symm h23 (by fail))) (by first | omega | (intro z; first | fail | exact WQ_0 (by fail) (by fail) | exact WM_a ⟨by fail, by fail⟩ (by fail) | exact WQ_s (q1 (by fail)) ⟨by fail, by fail⟩ (mB_in (by fail) (by fail)).symm h23 (by fail) | exact WM_b ⟨by fail, by fail⟩ (by fail) (mB_in (by fail) (by fail)).symm h23 (by fail))) (by first | (have z_ := unhid u16_; omega) | (intro z; first | fail | exact WQ_0 (by fail) (by fail) | exact WM_a ⟨by fail, by fail⟩ (by fail) | exact WQ_s (q1 (by fail)) ⟨by fail, by fail⟩ (mB_in (by fail) (by fail)).symm h23 (by fail) | exact WM_b ⟨by fail, by fail⟩ (by fail) (mB_in (by fail) (by fail)).symm h23 (by fail))) (by first | omega | (intro z; first | fail | exact WQ_0 (by fail) (by fail) | exact WM_a ⟨by fail, by fail⟩ (by fail) | exact WQ_s (q1 (by fail)) ⟨by fail, by fail⟩ (mB_in (by fail) (by fail)).symm h23 (by fail) | exact WM_b ⟨by fail, by fail⟩ (by fail) (mB_in (by fail) (by fail)).symm h23 (by fail))) (by first | (have z_ := unhid u16_; omega) | (intro z; first | fail | exact WQ_0 (by fail) (by fail) | exact WM_a ⟨by fail, by fail⟩ (by fail) | exact WQ_s (q1 (by fail)) ⟨by fail, by fail⟩ (mB_in (by fail) (by fail)).symm h23 (by fail) | exact WM_b ⟨by fail, by fail⟩ (by fail) (mB_in (by fail) (by fail)).symm h23 (by fail))) (by omega)) ⟨.inl rfl, .inl rfl, .inl rfl, .inl rfl, trivial⟩
    exact GO.le (loop18 _ 0 0 (by first | omega | (intro z; first | fail | exact WQ_0 (by fail) (by fail) | exact WM_a ⟨by fail, by fail⟩ (by fail) | exact WQ_s (q1 (by fail)) ⟨by fail, by fail⟩ (mB_in (by fail) (by fail)).symm hI (by fail) | exact WM_b ⟨by fail, by fail⟩ (by fail) (mB_in (by fail) (by fail)).symm hI (by fail))) (by first | omega | (intro z; first | fail | exact WQ_0 (by fail) (by fail) | exact WM_a ⟨by fail, by fail⟩ (by fail) | exact WQ_s (q1 (by fail)) ⟨by fail, by fail⟩ (mB_in (by fail) (by fail)).symm hI (by fail) | exact WM_b ⟨by fail, by fail⟩ (by fail) (mB_in (by fail) (by fail)).symm hI (by fail))) (by first | omega | (intro z; first | fail | exact WQ_0 (by fail) (by fail) | exact WM_a ⟨by fail, by fail⟩ (by fail) | exact WQ_s (q1 (by fail)) ⟨by fail, by fail⟩ (mB_in (by fail) (by fail)).symm hI (by fail) | exact WM_b ⟨by fail, by fail⟩ (by fail) (mB_in (by fail) (by fail)).symm hI (by fail))) (by first | fail | (intro z; first | fail | exact WQ_0 (by fail) (by fail) | exact WM_a ⟨by omega, by omega⟩ (by (have z0_ := unhid c5; omega)) | exact WQ_s (q1 (by fail)) ⟨by fail, by fail⟩ (mB_in (by fail) (by fail)).symm hI (by fail) | exact WM_b ⟨by fail, by fail⟩ (by fail) (mB_in (by fail) (by fail)).symm hI (by fail))) (by first | omega | (intro z; first | fail | exact WQ_0 (by fail) (by fail) | exact WM_a ⟨by fail, by fail⟩ (by fail) | exact WQ_s (q1 (by fail)) ⟨by fail, by fail⟩ (mB_in (by fail) (by fail)).symm hI (by fail) | exact WM_b ⟨by fail, by fail⟩ (by fail) (mB_in (by fail) (by fail)).symm hI (by fail))) (Nat.lt_succ_self _)) ⟨.inl rfl, .inl rfl, .inl rfl, .inl rfl, trivial⟩
  · skip
    refine go_toq PM156 (k := 5) (pc' := 24) (L' := [some (.inr (.inr (some 79))), some (.inr (.inr (some 1008))), some (.inl 1), some (.inl 0)]) (st' := []) (w' := (SH, dt)) rfl ?_
    have loop37 : ∀ (k_ : Nat) (l24_2 : Int) (l24_3 : Int) (i32 : 0 ≤ l24_2 ∧ l24_2 ≤ 1) (i33 : 0 ≤ l24_3 ∧ l24_3 ≤ 4) (i34 : l24_2 = 1 → WQ (am_Sby.getD 8 []) (dt 79 13 - dt 79 15) (mB (dt 85) (dt 79 12)) (dt 79 15) l24_3) (i35 : l24_2 = 0 → wm (am_Sby.getD 8 []) (mB (dt 85) (dt 79 12)) (dt 79 15).toNat (dt 79 13).toNat = 0) (i36 : l24_2 = 0 ∨ dt 79 13 - dt 79 15 = 4), (5 - l24_3).toNat < k_ → GO (am_XX L xs sio) (d + 4) 156 24 [some (.inr (.inr (some 79))), some (.inr (.inr (some 1008))), some (.inl l24_2), some (.inl l24_3)] [] (SH, dt) (fun r w2 => w2 = (SH, dt) ∧ ((∃ v : Int, r = some (.inl v) ∧ (0 ≤ v ∧ v ≤ 1) ∧ (v = wm (am_Sby.getD 8 []) (mB (dt 85) (dt 79 12)) (dt 79 15).toNat (dt 79 13).toNat)))) := by
      intro k_
      induction k_ with
      | zero => intro l24_2 l24_3 i32 i33 i34 i35 i36 hm; exact absurd hm (Nat.not_lt_zero _)
      | succ k_ ih_loop37 =>
        intro l24_2 l24_3 i32 i33 i34 i35 i36 hm
        replace i34 := hid i34
        replace i35 := hid i35
        replace i36 := hid i36
        have q1 := i34
        have q2 := i35
        refine go_toq PM156 (k := 2) (pc' := 26) (L' := [some (.inr (.inr (some 79))), some (.inr (.inr (some 1008))), some (.inl l24_2), some (.inl l24_3)]) (st' := [.inr (.inr (some 1008)), .inl l24_3]) (w' := (SH, dt)) rfl ?_
        refine go_callq PM156 PM249 (Q' := _) rfl rfl rfl rfl (sp_J0_length_8abf5_1008 L xs sio (d + 2) dt hI   ) ?_
        rintro _ _ ⟨rfl, h38⟩
        refine ⟨rfl, ?_⟩
        rcases h38 with ⟨rfl, h38⟩
        refine go_ifq PM156 (k := 0) (p1 := 67) (p2 := 32) (L' := [some (.inr (.inr (some 79))), some (.inr (.inr (some 1008))), some (.inl l24_2), some (.inl l24_3)]) (st' := []) (w' := (SH, dt)) rfl (c_ge (a := l24_3) (b := 4) (by first | exact bnd i33 (by decide) (by decide) | exact ⟨by fail, by fail⟩) ⟨by decide, by decide⟩) (fun c39 => ?_) (fun c39 => ?_)
        · skip
          refine go_toq PM156 (k := 1) (pc' := 68) (L' := [some (.inr (.inr (some 79))), some (.inr (.inr (some 1008))), some (.inl l24_2), some (.inl l24_3)]) (st' := [.inl l24_2]) (w' := (SH, dt)) rfl ?_
          refine go_retvq PM156 (v := l24_2) rfl (decide_eq_true (show l24_2 = 0 ∨ l24_2 = 1 by omega)) ?_
          exact ⟨rfl, ⟨_, rfl, ⟨by omega, by omega⟩, by rcases (show l24_2 = 0 ∨ l24_2 = 1 by omega) with z | z <;> first | (rw [q2 z]; exact z) | (rw [WM_1 (q1 z) ⟨by omega, by omega⟩ (by omega)]; exact z)⟩⟩
        · skip
          refine go_ifq PM156 (k := 1) (p1 := 67) (p2 := 36) (L' := [some (.inr (.inr (some 79))), some (.inr (.inr (some 1008))), some (.inl l24_2), some (.inl l24_3)]) (st' := []) (w' := (SH, dt)) rfl (z_eq (a := l24_2) (by first | exact bnd i32 (by decide) (by decide) | exact ⟨by fail, by fail⟩)) (fun c40 => ?_) (fun c40 => ?_)
          · skip
            refine go_toq PM156 (k := 1) (pc' := 68) (L' := [some (.inr (.inr (some 79))), some (.inr (.inr (some 1008))), some (.inl l24_2), some (.inl l24_3)]) (st' := [.inl l24_2]) (w' := (SH, dt)) rfl ?_
            refine go_retvq PM156 (v := l24_2) rfl (decide_eq_true (show l24_2 = 0 ∨ l24_2 = 1 by omega)) ?_
            exact ⟨rfl, ⟨_, rfl, ⟨by omega, by omega⟩, by rcases (show l24_2 = 0 ∨ l24_2 = 1 by omega) with z | z <;> first | (rw [q2 z]; exact z) | (rw [WM_1 (q1 z) ⟨by omega, by omega⟩ (by omega)]; exact z)⟩⟩
          · skip
            replace c40 := hid c40
            refine go_toq PM156 (k := 6) (pc' := 46) (L' := [some (.inr (.inr (some 79))), some (.inr (.inr (some 1008))), some (.inl l24_2), some (.inl l24_3)]) (st' := [.inl ((dt 79 15) + l24_3), .inr (.inr (some 85))]) (w' := (SH, dt)) rfl ?_
            have r41 : 0 ≤ dt 85 (((dt 79 15) + l24_3).toNat) ∧ dt 85 (((dt 79 15) + l24_3).toNat) ≤ 255 := InvC_get hI 85 (((dt 79 15) + l24_3).toNat) rfl rfl
            refine go_smpq PM156 (L' := [some (.inr (.inr (some 79))), some (.inr (.inr (some 1008))), some (.inl l24_2), some (.inl l24_3)]) (st' := [.inl (dt 85 (((dt 79 15) + l24_3).toNat))]) (w' := (SH, dt)) rfl rfl (s_iald (n := 500) (f := dt 85) rfl ⟨by omega, by omega⟩) ?_
            refine go_toq PM156 (k := 2) (pc' := 49) (L' := [some (.inr (.inr (some 79))), some (.inr (.inr (some 1008))), some (.inl l24_2), some (.inl l24_3)]) (st' := [.inl l24_3, .inr (.inr (some 1008)), .inl (dt 85 (((dt 79 15) + l24_3).toNat))]) (w' := (SH, dt)) rfl ?_
            refine go_callq PM156 PM250 (Q' := _) rfl rfl rfl rfl (sp_J0_charAt_5068e_8f L xs sio (d + 0) dt hI  l24_3 (by first | exact bnd i33 (by decide) (by decide) | exact bndd i33 c39 (by decide) (by decide) | exact ⟨by fail, by fail⟩) ) ?_
            rintro _ _ ⟨rfl, h42⟩
            refine ⟨rfl, ?_⟩
            rcases h42 with ⟨v_h42, rfl, h42r, h42⟩
            refine go_ifq PM156 (k := 0) (p1 := 59) (p2 := 55) (L' := [some (.inr (.inr (some 79))), some (.inr (.inr (some 1008))), some (.inl l24_2), some (.inl l24_3)]) (st' := []) (w' := (SH, dt)) rfl (c_ne (a := dt 85 (((dt 79 15) + l24_3).toNat)) (b := v_h42) (by first | exact bnd r41 (by decide) (by decide) | exact ⟨by fail, by fail⟩) (by first | exact bnd h42r (by decide) (by decide) | exact ⟨by fail, by fail⟩)) (fun c43 => ?_) (fun c43 => ?_)
            · skip
              replace c43 := hid c43
              refine go_toq PM156 (k := 4) (pc' := 24) (L' := [some (.inr (.inr (some 79))), some (.inr (.inr (some 1008))), some (.inl 0), some (.inl (l24_3 + 1))]) (st' := []) (w' := (SH, dt)) rfl ?_
              have u18_ := hid (And.intro (unhid i35) (And.intro (unhid i36) (And.intro (unhid c40) (unhid c43))))
              exact GO.le (ih_loop37 0 (l24_3 + 1) (by first | omega | (intro z; first | fail | exact WQ_0 (by fail) (by fail) | exact WM_a ⟨by fail, by fail⟩ (by fail) | exact WQ_s (q1 (by fail)) ⟨by fail, by fail⟩ (mB_in (by fail) (by fail)).symm h42 (by fail) | exact WM_b ⟨by fail, by fail⟩ (by fail) (mB_in (by fail) (by fail)).symm h42 (by fail))) (by first | omega | (intro z; first | fail | exact WQ_0 (by fail) (by fail) | exact WM_a ⟨by fail, by fail⟩ (by fail) | exact WQ_s (q1 (by fail)) ⟨by fail, by fail⟩ (mB_in (by fail) (by fail)).symm h42 (by fail) | exact WM_b ⟨by fail, by fail⟩ (by fail) (mB_in (by fail) (by fail)).symm h42 (by fail))) (by first | omega | (intro z; first | fail | exact WQ_0 (by fail) (by fail) | exact WM_a ⟨by fail, by fail⟩ (by fail) | exact WQ_s (q1 (by fail)) ⟨by fail, by fail⟩ (mB_in (by fail) (by fail)).symm h42 (by fail) | exact WM_b ⟨by fail, by fail⟩ (by fail) (mB_in (by fail) (by fail)).symm h42 (by fail))) (by first | fail | (intro z; first | fail | exact WQ_0 (by fail) (by fail) | exact WM_a ⟨by omega, by omega⟩ (by fail) | exact WQ_s (q1 (by (have z_ := unhid u18_; omega))) ⟨by omega, by omega⟩ (mB_in (by omega) (by omega)).symm h42 (by fail) | exact WM_b ⟨by omega, by omega⟩ (by omega) (mB_in (by omega) (by omega)).symm h42 (by (have z_ := unhid u18_; omega)))) (by first | omega | (intro z; first | fail | exact WQ_0 (by fail) (by fail) | exact WM_a ⟨by fail, by fail⟩ (by fail) | exact WQ_s (q1 (by fail)) ⟨by fail, by fail⟩ (mB_in (by fail) (by fail)).symm h42 (by fail) | exact WM_b ⟨by fail, by fail⟩ (by fail) (mB_in (by fail) (by fail)).symm h42 (by fail))) (by omega)) ⟨.inl rfl, .inl rfl, .inl rfl, .inl rfl, trivial⟩
            · skip
              refine go_toq PM156 (k := 5) (pc' := 24) (L' := [some (.inr (.inr (some 79))), some (.inr (.inr (some 1008))), some (.inl 1), some (.inl (l24_3 + 1))]) (st' := []) (w' := (SH, dt)) rfl ?_
              exact GO.le (ih_loop37 1 (l24_3 + 1) (by first | omega | (intro z; first | fail | exact WQ_0 (by fail) (by fail) | exact WM_a ⟨by fail, by fail⟩ (by fail) | exact WQ_s (q1 (by fail)) ⟨by fail, by fail⟩ (mB_in (by fail) (by fail)).symm h42 (by fail) | exact WM_b ⟨by fail, by fail⟩ (by fail) (mB_in (by fail) (by fail)).symm h42 (by fail))) (by first | omega | (intro z; first | fail | exact WQ_0 (by fail) (by fail) | exact WM_a ⟨by fail, by fail⟩ (by fail) | exact WQ_s (q1 (by fail)) ⟨by fail, by fail⟩ (mB_in (by fail) (by fail)).symm h42 (by fail) | exact WM_b ⟨by fail, by fail⟩ (by fail) (mB_in (by fail) (by fail)).symm h42 (by fail))) (by first | fail | (intro z; first | fail | exact WQ_0 (by omega) (by fail) | exact WM_a ⟨by fail, by fail⟩ (by fail) | exact WQ_s (q1 (by (have z0_ := unhid i35; have z1_ := unhid i36; have z2_ := unhid c40; omega))) ⟨by omega, by omega⟩ (mB_in (by omega) (by omega)).symm h42 (by omega) | exact WM_b ⟨by fail, by fail⟩ (by fail) (mB_in (by fail) (by fail)).symm h42 (by fail))) (by first | omega | (intro z; first | fail | exact WQ_0 (by fail) (by fail) | exact WM_a ⟨by fail, by fail⟩ (by fail) | exact WQ_s (q1 (by fail)) ⟨by fail, by fail⟩ (mB_in (by fail) (by fail)).symm h42 (by fail) | exact WM_b ⟨by fail, by fail⟩ (by fail) (mB_in (by fail) (by fail)).symm h42 (by fail))) (by first | omega | (intro z; first | fail | exact WQ_0 (by fail) (by fail) | exact WM_a ⟨by fail, by fail⟩ (by fail) | exact WQ_s (q1 (by fail)) ⟨by fail, by fail⟩ (mB_in (by fail) (by fail)).symm h42 (by fail) | exact WM_b ⟨by fail, by fail⟩ (by fail) (mB_in (by fail) (by fail)).symm h42 (by fail))) (by omega)) ⟨.inl rfl, .inl rfl, .inl rfl, .inl rfl, trivial⟩
    exact GO.le (loop37 _ 1 0 (by first | omega | (intro z; first | fail | exact WQ_0 (by fail) (by fail) | exact WM_a ⟨by fail, by fail⟩ (by fail) | exact WQ_s (q1 (by fail)) ⟨by fail, by fail⟩ (mB_in (by fail) (by fail)).symm hI (by fail) | exact WM_b ⟨by fail, by fail⟩ (by fail) (mB_in (by fail) (by fail)).symm hI (by fail))) (by first | omega | (intro z; first | fail | exact WQ_0 (by fail) (by fail) | exact WM_a ⟨by fail, by fail⟩ (by fail) | exact WQ_s (q1 (by fail)) ⟨by fail, by fail⟩ (mB_in (by fail) (by fail)).symm hI (by fail) | exact WM_b ⟨by fail, by fail⟩ (by fail) (mB_in (by fail) (by fail)).symm hI (by fail))) (by first | fail | (intro z; first | fail | exact WQ_0 (by omega) (by omega) | exact WM_a ⟨by fail, by fail⟩ (by fail) | exact WQ_s (q1 (by fail)) ⟨by fail, by fail⟩ (mB_in (by fail) (by fail)).symm hI (by fail) | exact WM_b ⟨by fail, by fail⟩ (by fail) (mB_in (by fail) (by fail)).symm hI (by fail))) (by first | omega | (intro z; first | fail | exact WQ_0 (by fail) (by fail) | exact WM_a ⟨by fail, by fail⟩ (by fail) | exact WQ_s (q1 (by fail)) ⟨by fail, by fail⟩ (mB_in (by fail) (by fail)).symm hI (by fail) | exact WM_b ⟨by fail, by fail⟩ (by fail) (mB_in (by fail) (by fail)).symm hI (by fail))) (by first | omega | (intro z; first | fail | exact WQ_0 (by fail) (by fail) | exact WM_a ⟨by fail, by fail⟩ (by fail) | exact WQ_s (q1 (by fail)) ⟨by fail, by fail⟩ (mB_in (by fail) (by fail)).symm hI (by fail) | exact WM_b ⟨by fail, by fail⟩ (by fail) (mB_in (by fail) (by fail)).symm hI (by fail))) (Nat.lt_succ_self _)) ⟨.inl rfl, .inl rfl, .inl rfl, .inl rfl, trivial⟩
theorem sp_J1_charAt_3b067_9f (L : Nat) (xs : Nat → Int32) (sio : Option Nat) (d : Nat) (dt : Nat → Nat → Int) (hI : InvC dt)  (p2 : Int) (h_p2 : 0 ≤ p2 ∧ p2 ≤ 3)  : GO (am_XX L xs sio) (d + 2) 256 0 [some (.inr (.inr (some 2009))), some (.inl p2)] [] (SH, dt) (fun r w2 => w2 = (SH, dt) ∧ ((∃ v : Int, r = some (.inl v) ∧ (0 ≤ v ∧ v ≤ 65535) ∧ (v = (am_Sby.getD 9 []).getD p2.toNat 0)))) := by
  refine go_toq PM256 (k := 3) (pc' := 3) (L' := [some (.inr (.inr (some 2009))), some (.inl p2)]) (st' := [.inl 4, .inl p2]) (w' := (SH, dt)) rfl ?_
  refine go_callq PM256 PM255 (Q' := _) rfl rfl rfl rfl (sp_J0_checkIndex_df160 L xs sio (d + 0) dt hI  p2 (by first | exact h_p2 | exact bnd h_p2 (by decide) (by decide) | exact ⟨by fail, by fail⟩) 4 ⟨by decide, by decide⟩ (by first | exact True.intro | with_reducible assumption | rfl | omega | trivial)) ?_
  rintro _ _ ⟨rfl, h1⟩
  refine ⟨rfl, ?_⟩
  rcases h1 with ⟨rfl, h1⟩
  refine go_toq PM256 (k := 2) (pc' := 8) (L' := [some (.inr (.inr (some 2009))), some (.inl p2)]) (st' := [.inl p2, .inr (.inr (some 2009))]) (w' := (SH, dt)) rfl ?_
  have r2 := sby_R 9 (p2).toNat
  refine go_smpq PM256 (L' := [some (.inr (.inr (some 2009))), some (.inl p2)]) (st' := [.inl ((am_Sby.getD 9 []).getD (p2).toNat 0)]) (w' := (SH, dt)) rfl rfl (s_bald (n := 4) (f := fun q => (am_Sby.getD 9 []).getD q 0) rfl (by first | exact bndx h_p2 (by decide) (by decide) | exact ⟨by fail, by fail⟩)) ?_
  have r3 : 0 ≤ am_and ((am_Sby.getD 9 []).getD (p2).toNat 0) 255 ∧ am_and ((am_Sby.getD 9 []).getD (p2).toNat 0) 255 ≤ 255 := and_R255
  have r4 := i2c_R (am_and ((am_Sby.getD 9 []).getD (p2).toNat 0) 255)
  refine go_toq PM256 (k := 3) (pc' := 14) (L' := [some (.inr (.inr (some 2009))), some (.inl p2)]) (st' := [.inl (am_i2c (am_and ((am_Sby.getD 9 []).getD (p2).toNat 0) 255))]) (w' := (SH, dt)) rfl ?_
  refine go_retvq PM256 (v := am_i2c (am_and ((am_Sby.getD 9 []).getD (p2).toNat 0) 255)) rfl (decide_eq_true (show 0 ≤ am_i2c (am_and ((am_Sby.getD 9 []).getD (p2).toNat 0) 255) ∧ am_i2c (am_and ((am_Sby.getD 9 []).getD (p2).toNat 0) 255) < 65536 by omega)) ?_
  exact ⟨rfl, ⟨_, rfl, ⟨by omega, by omega⟩, by exact ic_id ⟨by omega, by omega⟩⟩⟩
theorem sp_J0_charAt_5068e_9f (L : Nat) (xs : Nat → Int32) (sio : Option Nat) (d : Nat) (dt : Nat → Nat → Int) (hI : InvC dt)  (p1 : Int) (h_p1 : 0 ≤ p1 ∧ p1 ≤ 3)  : GO (am_XX L xs sio) (d + 3) 250 0 [some (.inr (.inr (some 1009))), some (.inl p1)] [] (SH, dt) (fun r w2 => w2 = (SH, dt) ∧ ((∃ v : Int, r = some (.inl v) ∧ (0 ≤ v ∧ v ≤ 65535) ∧ (v = (am_Sby.getD 9 []).getD p1.toNat 0)))) := by
  refine go_toq PM250 (k := 1) (pc' := 1) (L' := [some (.inr (.inr (some 1009))), some (.inl p1)]) (st' := [.inr (.inr (some 1009))]) (w' := (SH, dt)) rfl ?_
  refine go_callq PM250 PM254 (Q' := _) rfl rfl rfl rfl (sp_J0_isLatin1_aae02_1009 L xs sio (d + 2) dt hI   ) ?_
  rintro _ _ ⟨rfl, h1⟩
  refine ⟨rfl, ?_⟩
  rcases h1 with ⟨rfl, h1⟩
  refine go_toq PM250 (k := 4) (pc' := 12) (L' := [some (.inr (.inr (some 1009))), some (.inl p1)]) (st' := [.inl p1, .inr (.inr (some 2009))]) (w' := (SH, dt)) rfl ?_
  refine go_callq PM250 PM256 (Q' := _) rfl rfl rfl rfl (sp_J1_charAt_3b067_9f L xs sio (d + 0) dt hI  p1 (by first | exact h_p1 | exact bnd h_p1 (by decide) (by decide) | exact ⟨by fail, by fail⟩) ) ?_
  rintro _ _ ⟨rfl, h2⟩
  refine ⟨rfl, ?_⟩
  rcases h2 with ⟨v_h2, rfl, h2r, h2⟩
  refine go_retvq PM250 (v := v_h2) rfl (decide_eq_true (show 0 ≤ v_h2 ∧ v_h2 < 65536 by omega)) ?_
  exact ⟨rfl, ⟨_, rfl, ⟨by omega, by omega⟩, by first | exact True.intro | with_reducible assumption | rfl | fail | trivial⟩⟩
set_option maxRecDepth 20000 in
theorem sp_X6_is_9f (L : Nat) (xs : Nat → Int32) (sio : Option Nat) (d : Nat) (dt : Nat → Nat → Int) (hI : InvC dt)   (h_p0 : dt 79 13 ≤ 500) (h_p1 : dt 79 15 ≤ dt 79 13) (h_p2 : dt 79 13 ≤ dt 79 12) : GO (am_XX L xs sio) (d + 4) 156 0 [some (.inr (.inr (some 79))), some (.inr (.inr (some 1009))), none, none] [] (SH, dt) (fun r w2 => w2 = (SH, dt) ∧ ((∃ v : Int, r = some (.inl v) ∧ (0 ≤ v ∧ v ≤ 1) ∧ (v = wm (am_Sby.getD 9 []) (mB (dt 85) (dt 79 12)) (dt 79 15).toNat (dt 79 13).toNat)))) := by
  have r1 : 0 ≤ dt 79 13 ∧ dt 79 13 ≤ 501 := InvC_get hI 79 13 rfl rfl
  have r2 : 0 ≤ dt 79 15 ∧ dt 79 15 ≤ 500 := InvC_get hI 79 15 rfl rfl
  have r3 : 0 ≤ dt 79 12 ∧ dt 79 12 ≤ 500 := InvC_get hI 79 12 rfl rfl
  have hlen : (((am_Sby.getD 9 []).length : Nat) : Int) = 4 := rfl
  refine go_toq PM156 (k := 6) (pc' := 10) (L' := [some (.inr (.inr (some 79))), some (.inr (.inr (some 1009))), none, none]) (st' := [.inr (.inr (some 1009)), .inl ((dt 79 13) - (dt 79 15))]) (w' := (SH, dt)) rfl ?_
  refine go_callq PM156 PM249 (Q' := _) rfl rfl rfl rfl (sp_J0_length_8abf5_1009 L xs sio (d + 2) dt hI   ) ?_
  rintro _ _ ⟨rfl, h4⟩
  refine ⟨rfl, ?_⟩
  rcases h4 with ⟨rfl, h4⟩
  refine go_ifq PM156 (k := 0) (p1 := 20) (p2 := 16) (L' := [some (.inr (.inr (some 79))), some (.inr (.inr (some 1009))), none, none]) (st' := []) (w' := (SH, dt)) rfl (c_ne (a := (dt 79 13) - (dt 79 15)) (b := 4) ⟨by omega, by omega⟩ ⟨by decide, by decide⟩) (fun c5 => ?_) (fun c5 => ?_)
  · skip
    replace c5 := hid c5
    refine go_toq PM156 (k := 4) (pc' := 24) (L' := [some (.inr (.inr (some 79))), some (.inr (.inr (some 1009))), some (.inl 0), some (.inl 0)]) (st' := []) (w' := (SH, dt)) rfl ?_
    have loop18 : ∀ (k_ : Nat) (l24_2 : Int) (l24_3 : Int) (i13 : 0 ≤ l24_2 ∧ l24_2 ≤ 1) (i14 : 0 ≤ l24_3 ∧ l24_3 ≤ 4) (i15 : l24_2 = 1 → WQ (am_Sby.getD 9 []) (dt 79 13 - dt 79 15) (mB (dt 85) (dt 79 12)) (dt 79 15) l24_3) (i16 : l24_2 = 0 → wm (am_Sby.getD 9 []) (mB (dt 85) (dt 79 12)) (dt 79 15).toNat (dt 79 13).toNat = 0) (i17 : l24_2 = 0 ∨ dt 79 13 - dt 79 15 = 4), (5 - l24_3).toNat < k_ → GO (am_XX L xs sio) (d + 4) 156 24 [some (.inr (.inr (some 79))), some (.inr (.inr (some 1009))), some (.inl l24_2), some (.inl l24_3)] [] (SH, dt) (fun r w2 => w2 = (SH, dt) ∧ ((∃ v : Int, r = some (.inl v) ∧ (0 ≤ v ∧ v ≤ 1) ∧ (v = wm (am_Sby.getD 9 []) (mB (dt 85) (dt 79 12)) (dt 79 15).toNat (dt 79 13).toNat)))) := by
      intro k_
      induction k_ with
      | zero => intro l24_2 l24_3 i13 i14 i15 i16 i17 hm; exact absurd hm (Nat.not_lt_zero _)
      | succ k_ ih_loop18 =>
        intro l24_2 l24_3 i13 i14 i15 i16 i17 hm
        replace i15 := hid i15
        replace i16 := hid i16
        replace i17 := hid i17
        have q1 := i15
        have q2 := i16
        refine go_toq PM156 (k := 2) (pc' := 26) (L' := [some (.inr (.inr (some 79))), some (.inr (.inr (some 1009))), some (.inl l24_2), some (.inl l24_3)]) (st' := [.inr (.inr (some 1009)), .inl l24_3]) (w' := (SH, dt)) rfl ?_
        refine go_callq PM156 PM249 (Q' := _) rfl rfl rfl rfl (sp_J0_length_8abf5_1009 L xs sio (d + 2) dt hI   ) ?_
        rintro _ _ ⟨rfl, h19⟩
        refine ⟨rfl, ?_⟩
        rcases h19 with ⟨rfl, h19⟩
        refine go_ifq PM156 (k := 0) (p1 := 67) (p2 := 32) (L' := [some (.inr (.inr (some 79))), some (.inr (.inr (some 1009))), some (.inl l24_2), some (.inl l24_3)]) (st' := []) (w' := (SH, dt)) rfl (c_ge (a := l24_3) (b := 4) (by first | exact bnd i14 (by decide) (by decide) | exact ⟨by fail, by fail⟩) ⟨by decide, by decide⟩) (fun c20 => ?_) (fun c20 => ?_)
        · skip
          refine go_toq PM156 (k := 1) (pc' := 68) (L' := [some (.inr (.inr (some 79))), some (.inr (.inr (some 1009))), some (.inl l24_2), some (.inl l24_3)]) (st' := [.inl l24_2]) (w' := (SH, dt)) rfl ?_
          refine go_retvq PM156 (v := l24_2) rfl (decide_eq_true (show l24_2 = 0 ∨ l24_2 = 1 by omega)) ?_
          exact ⟨rfl, ⟨_, rfl, ⟨by omega, by omega⟩, by rcases (show l24_2 = 0 ∨ l24_2 = 1 by omega) with z | z <;> first | (rw [q2 z]; exact z) | (rw [WM_1 (q1 z) ⟨by omega, by omega⟩ (by omega)]; exact z)⟩⟩
        · skip
          refine go_ifq PM156 (k := 1) (p1 := 67) (p2 := 36) (L' := [some (.inr (.inr (some 79))), some (.inr (.inr (some 1009))), some (.inl l24_2), some (.inl l24_3)]) (st' := []) (w' := (SH, dt)) rfl (z_eq (a := l24_2) (by first | exact bnd i13 (by decide) (by decide) | exact ⟨by fail, by fail⟩)) (fun c21 => ?_) (fun c21 => ?_)
          · skip
            refine go_toq PM156 (k := 1) (pc' := 68) (L' := [some (.inr (.inr (some 79))), some (.inr (.inr (some 1009))), some (.inl l24_2), some (.inl l24_3)]) (st' := [.inl l24_2]) (w' := (SH, dt)) rfl ?_
            refine go_retvq PM156 (v := l24_2) rfl (decide_eq_true (show l24_2 = 0 ∨ l24_2 = 1 by omega)) ?_
            exact ⟨rfl, ⟨_, rfl, ⟨by omega, by omega⟩, by rcases (show l24_2 = 0 ∨ l24_2 = 1 by omega) with z | z <;> first | (rw [q2 z]; exact z) | (rw [WM_1 (q1 z) ⟨by omega, by omega⟩ (by omega)]; exact z)⟩⟩
          · skip
            replace c21 := hid c21
            refine go_toq PM156 (k := 6) (pc' := 46) (L' := [some (.inr (.inr (some 79))), some (.inr (.inr (some 1009))), some (.inl l24_2), some (.inl l24_3)]) (st' := [.inl ((dt 79 15) + l24_3), .inr (.inr (some 85))]) (w' := (SH, dt)) rfl ?_
            have r22 : 0 ≤ dt 85 (((dt 79 15) + l24_3).toNat) ∧ dt 85 (((dt 79 15) + l24_3).toNat) ≤ 255 := InvC_get hI 85 (((dt 79 15) + l24_3).toNat) rfl rfl
            have u19_ := hid (And.intro (unhid c5) (And.intro (unhid i16) (And.intro (unhid i17) (unhid c21))))
            refine go_smpq PM156 (L' := [some (.inr (.inr (some 79))), some (.inr (.inr (some 1009))), some (.inl l24_2), some (.inl l24_3)]) (st' := [.inl (dt 85 (((dt 79 15) + l24_3).toNat))]) (w' := (SH, dt)) rfl rfl (s_iald (n := 500) (f := dt 85) rfl ⟨by omega, by (have z_ := unhid u19_; omega)⟩) ?_
            refine go_toq PM156 (k := 2) (pc' := 49) (L' := [some (.inr (.inr (some 79))), some (.inr (.inr (some 1009))), some (.inl l24_2), some (.inl l24_3)]) (st' := [.inl l24_3, .inr (.inr (some 1009)), .inl (dt 85 (((dt 79 15) + l24_3).toNat))]) (w' := (SH, dt)) rfl ?_
            refine go_callq PM156 PM250 (Q' := _) rfl rfl rfl rfl (sp_J0_charAt_5068e_9f L xs sio (d + 0) dt hI  l24_3 (by first | exact bnd i14 (by decide) (by decide) | exact bndd i14 c20 (by decide) (by decide) | exact ⟨by fail, by fail⟩) ) ?_
            rintro _ _ ⟨rfl, h23⟩
            refine ⟨rfl, ?_⟩
            rcases h23 with ⟨v_h23, rfl, h23r, h23⟩
            refine go_ifq PM156 (k := 0) (p1 := 59) (p2 := 55) (L' := [some (.inr (.inr (some 79))), some (.inr (.inr (some 1009))), some (.inl l24_2), some (.inl l24_3)]) (st' := []) (w' := (SH, dt)) rfl (c_ne (a := dt 85 (((dt 79 15) + l24_3).toNat)) (b := v_h23) (by first | exact bnd r22 (by decide) (by decide) | exact ⟨by fail, by fail⟩) (by first | exact bnd h23r (by decide) (by decide) | exact ⟨by fail, by fail⟩)) (fun c24 => ?_) (fun c24 => ?_)
            · skip
              replace c24 := hid c24
              refine go_toq PM156 (k := 4) (pc' := 24) (L' := [some (.inr (.inr (some 79))), some (.inr (.inr (some 1009))), some (.inl 0), some (.inl (l24_3 + 1))]) (st' := []) (w' := (SH, dt)) rfl ?_
              have u20_ := hid (And.intro (unhid c5) (And.intro (unhid i16) (And.intro (unhid i17) (And.intro (unhid c21) (unhid c24)))))
              exact GO.le (ih_loop18 0 (l24_3 + 1) (by first | omega | (intro z; first | fail | exact WQ_0 (by fail) (by fail) | exact WM_a ⟨by fail, by fail⟩ (by fail) | exact WQ_s (q1 (by fail)) ⟨by fail, by fail⟩ (mB_in (by fail) (by fail)).symm h23 (by fail) | exact WM_b ⟨by fail, by fail⟩ (by fail) (mB_in (by fail) (by fail)).symm h23 (by fail))) (by first | omega | (intro z; first | fail | exact WQ_0 (by fail) (by fail) | exact WM_a ⟨by fail, by fail⟩ (by fail) | exact WQ_s (q1 (by fail)) ⟨by fail, by fail⟩ (mB_in (by fail) (by fail)).symm h23 (by fail) | exact WM_b ⟨by fail, by fail⟩ (by fail) (mB_in (by fail) (by fail)).symm h23 (by fail))) (by first | omega | (intro z; first | fail | exact WQ_0 (by fail) (by fail) | exact WM_a ⟨by fail, by fail⟩ (by fail) | exact WQ_s (q1 (by fail)) ⟨by fail, by fail⟩ (mB_in (by fail) (by fail)).symm h23 (by fail) | exact WM_b ⟨by fail, by fail⟩ (by fail) (mB_in (by fail) (by fail)).symm h23 (by fail))) (by first | (have z_ := unhid u20_; omega) | (intro z; first | fail | exact WQ_0 (by fail) (by fail) | exact WM_a ⟨by fail, by fail⟩ (by fail) | exact WQ_s (q1 (by fail)) ⟨by fail, by fail⟩ (mB_in (by fail) (by fail)).symm h23 (by fail) | exact WM_b ⟨by fail, by fail⟩ (by fail) (mB_in (by fail) (by fail)).symm h23 (by fail))) (by first | omega | (intro z; first | fail | exact WQ_0 (by fail) (by fail) | exact WM_a ⟨by fail, by fail⟩ (by fail) | exact WQ_s (q1 (by fail)) ⟨by fail, by fail⟩ (mB_in (by fail) (by fail)).symm h23 (by fail) | exact WM_b ⟨by fail, by fail⟩ (by fail) (mB_in (by fail) (by fail)).symm h23 (by fail))) (by omega)) ⟨.inl rfl, .inl rfl, .inl rfl, .inl rfl, trivial⟩
            · skip
              refine go_toq PM156 (k := 5) (pc' := 24) (L' := [some (.inr (.inr (some 79))), some (.inr (.inr (some 1009))), some (.inl 1), some (.inl (l24_3 + 1))]) (st' := []) (w' := (SH, dt)) rfl ?_
              exact GO.le (ih_loop18 1 (l24_3 + 1) (by first | omega | (intro z; first | fail | exact WQ_0 (by fail) (by fail) | exact WM_a ⟨by fail, by fail⟩ (by fail) | exact WQ_s (q1 (by fail)) ⟨by fail, by fail⟩ (mB_in (by fail) (by fail)).symm h23 (by fail) | exact WM_b ⟨by fail, by fail⟩ (by fail) (mB_in (by fail) (by fail)).symm h23 (by fail))) (by first | omega | (intro z; first | fail | exact WQ_0 (by fail) (by fail) | exact WM_a ⟨by fail, by fail⟩ (by fail) | exact WQ_s (q1 (by fail)) ⟨by fail, by fail⟩ (mB_in (by fail) (by fail)).symm h23 (by fail) | exact WM_b ⟨by fail, by fail⟩ (by fail) (mB_in (by fail) (by fail)).symm h23 (by fail))) (by first | (have z_ := unhid u19_; omega) | (intro z; first | fail | exact WQ_0 (by fail) (by fail) | exact WM_a ⟨by fail, by fail⟩ (by fail) | exact WQ_s (q1 (by fail)) ⟨by fail, by fail⟩ (mB_in (by fail) (by fail)).symm h23 (by fail) | exact WM_b ⟨by fail, by fail⟩ (by fail) (mB_in (by fail) (by fail)).symm h23 (by fail))) (by first | omega | (intro z; first | fail | exact WQ_0 (by fail) (by fail) | exact WM_a ⟨by fail, by fail⟩ (by fail) | exact WQ_s (q1 (by fail)) ⟨by fail, by fail⟩ (mB_in (by fail) (by fail)).symm h23 (by fail) | exact WM_b ⟨by fail, by fail⟩ (by fail) (mB_in (by fail) (by fail)).symm h23 (by fail))) (by first | (have z_ := unhid u19_; omega) | (intro z; first | fail | exact WQ_0 (by fail) (by fail) | exact WM_a ⟨by fail, by fail⟩ (by fail) | exact WQ_s (q1 (by fail)) ⟨by fail, by fail⟩ (mB_in (by fail) (by fail)).symm h23 (by fail) | exact WM_b ⟨by fail, by fail⟩ (by fail) (mB_in (by fail) (by fail)).symm h23 (by fail))) (by omega)) ⟨.inl rfl, .inl rfl, .inl rfl, .inl rfl, trivial⟩
    exact GO.le (loop18 _ 0 0 (by first | omega | (intro z; first | fail | exact WQ_0 (by fail) (by fail) | exact WM_a ⟨by fail, by fail⟩ (by fail) | exact WQ_s (q1 (by fail)) ⟨by fail, by fail⟩ (mB_in (by fail) (by fail)).symm hI (by fail) | exact WM_b ⟨by fail, by fail⟩ (by fail) (mB_in (by fail) (by fail)).symm hI (by fail))) (by first | omega | (intro z; first | fail | exact WQ_0 (by fail) (by fail) | exact WM_a ⟨by fail, by fail⟩ (by fail) | exact WQ_s (q1 (by fail)) ⟨by fail, by fail⟩ (mB_in (by fail) (by fail)).symm hI (by fail) | exact WM_b ⟨by fail, by fail⟩ (by fail) (mB_in (by fail) (by fail)).symm hI (by fail))) (by first | omega | (intro z; first | fail | exact WQ_0 (by fail) (by fail) | exact WM_a ⟨by fail, by fail⟩ (by fail) | exact WQ_s (q1 (by fail)) ⟨by fail, by fail⟩ (mB_in (by fail) (by fail)).symm hI (by fail) | exact WM_b ⟨by fail, by fail⟩ (by fail) (mB_in (by fail) (by fail)).symm hI (by fail))) (by first | fail | (intro z; first | fail | exact WQ_0 (by fail) (by fail) | exact WM_a ⟨by omega, by omega⟩ (by (have z0_ := unhid c5; omega)) | exact WQ_s (q1 (by fail)) ⟨by fail, by fail⟩ (mB_in (by fail) (by fail)).symm hI (by fail) | exact WM_b ⟨by fail, by fail⟩ (by fail) (mB_in (by fail) (by fail)).symm hI (by fail))) (by first | omega | (intro z; first | fail | exact WQ_0 (by fail) (by fail) | exact WM_a ⟨by fail, by fail⟩ (by fail) | exact WQ_s (q1 (by fail)) ⟨by fail, by fail⟩ (mB_in (by fail) (by fail)).symm hI (by fail) | exact WM_b ⟨by fail, by fail⟩ (by fail) (mB_in (by fail) (by fail)).symm hI (by fail))) (Nat.lt_succ_self _)) ⟨.inl rfl, .inl rfl, .inl rfl, .inl rfl, trivial⟩
  · skip
    refine go_toq PM156 (k := 5) (pc' := 24) (L' := [some (.inr (.inr (some 79))), some (.inr (.inr (some 1009))), some (.inl 1), some (.inl 0)]) (st' := []) (w' := (SH, dt)) rfl ?_
    have loop37 : ∀ (k_ : Nat) (l24_2 : Int) (l24_3 : Int) (i32 : 0 ≤ l24_2 ∧ l24_2 ≤ 1) (i33 : 0 ≤ l24_3 ∧ l24_3 ≤ 4) (i34 : l24_2 = 1 → WQ (am_Sby.getD 9 []) (dt 79 13 - dt 79 15) (mB (dt 85) (dt 79 12)) (dt 79 15) l24_3) (i35 : l24_2 = 0 → wm (am_Sby.getD 9 []) (mB (dt 85) (dt 79 12)) (dt 79 15).toNat (dt 79 13).toNat = 0) (i36 : l24_2 = 0 ∨ dt 79 13 - dt 79 15 = 4), (5 - l24_3).toNat < k_ → GO (am_XX L xs sio) (d + 4) 156 24 [some (.inr (.inr (some 79))), some (.inr (.inr (some 1009))), some (.inl l24_2), some (.inl l24_3)] [] (SH, dt) (fun r w2 => w2 = (SH, dt) ∧ ((∃ v : Int, r = some (.inl v) ∧ (0 ≤ v ∧ v ≤ 1) ∧ (v = wm (am_Sby.getD 9 []) (mB (dt 85) (dt 79 12)) (dt 79 15).toNat (dt 79 13).toNat)))) := by
      intro k_
      induction k_ with
      | zero => intro l24_2 l24_3 i32 i33 i34 i35 i36 hm; exact absurd hm (Nat.not_lt_zero _)
      | succ k_ ih_loop37 =>
        intro l24_2 l24_3 i32 i33 i34 i35 i36 hm
        replace i34 := hid i34
        replace i35 := hid i35
        replace i36 := hid i36
        have q1 := i34
        have q2 := i35
        refine go_toq PM156 (k := 2) (pc' := 26) (L' := [some (.inr (.inr (some 79))), some (.inr (.inr (some 1009))), some (.inl l24_2), some (.inl l24_3)]) (st' := [.inr (.inr (some 1009)), .inl l24_3]) (w' := (SH, dt)) rfl ?_
        refine go_callq PM156 PM249 (Q' := _) rfl rfl rfl rfl (sp_J0_length_8abf5_1009 L xs sio (d + 2) dt hI   ) ?_
        rintro _ _ ⟨rfl, h38⟩
        refine ⟨rfl, ?_⟩
        rcases h38 with ⟨rfl, h38⟩
        refine go_ifq PM156 (k := 0) (p1 := 67) (p2 := 32) (L' := [some (.inr (.inr (some 79))), some (.inr (.inr (some 1009))), some (.inl l24_2), some (.inl l24_3)]) (st' := []) (w' := (SH, dt)) rfl (c_ge (a := l24_3) (b := 4) (by first | exact bnd i33 (by decide) (by decide) | exact ⟨by fail, by fail⟩) ⟨by decide, by decide⟩) (fun c39 => ?_) (fun c39 => ?_)
        · skip
          refine go_toq PM156 (k := 1) (pc' := 68) (L' := [some (.inr (.inr (some 79))), some (.inr (.inr (some 1009))), some (.inl l24_2), some (.inl l24_3)]) (st' := [.inl l24_2]) (w' := (SH, dt)) rfl ?_
          refine go_retvq PM156 (v := l24_2) rfl (decide_eq_true (show l24_2 = 0 ∨ l24_2 = 1 by omega)) ?_
          exact ⟨rfl, ⟨_, rfl, ⟨by omega, by omega⟩, by rcases (show l24_2 = 0 ∨ l24_2 = 1 by omega) with z | z <;> first | (rw [q2 z]; exact z) | (rw [WM_1 (q1 z) ⟨by omega, by omega⟩ (by omega)]; exact z)⟩⟩
        · skip
          refine go_ifq PM156 (k := 1) (p1 := 67) (p2 := 36) (L' := [some (.inr (.inr (some 79))), some (.inr (.inr (some 1009))), some (.inl l24_2), some (.inl l24_3)]) (st' := []) (w' := (SH, dt)) rfl (z_eq (a := l24_2) (by first | exact bnd i32 (by decide) (by decide) | exact ⟨by fail, by fail⟩)) (fun c40 => ?_) (fun c40 => ?_)
          · skip
            refine go_toq PM156 (k := 1) (pc' := 68) (L' := [some (.inr (.inr (some 79))), some (.inr (.inr (some 1009))), some (.inl l24_2), some (.inl l24_3)]) (st' := [.inl l24_2]) (w' := (SH, dt)) rfl ?_
            refine go_retvq PM156 (v := l24_2) rfl (decide_eq_true (show l24_2 = 0 ∨ l24_2 = 1 by omega)) ?_
            exact ⟨rfl, ⟨_, rfl, ⟨by omega, by omega⟩, by rcases (show l24_2 = 0 ∨ l24_2 = 1 by omega) with z | z <;> first | (rw [q2 z]; exact z) | (rw [WM_1 (q1 z) ⟨by omega, by omega⟩ (by omega)]; exact z)⟩⟩
          · skip
            replace c40 := hid c40
            refine go_toq PM156 (k := 6) (pc' := 46) (L' := [some (.inr (.inr (some 79))), some (.inr (.inr (some 1009))), some (.inl l24_2), some (.inl l24_3)]) (st' := [.inl ((dt 79 15) + l24_3), .inr (.inr (some 85))]) (w' := (SH, dt)) rfl ?_
            have r41 : 0 ≤ dt 85 (((dt 79 15) + l24_3).toNat) ∧ dt 85 (((dt 79 15) + l24_3).toNat) ≤ 255 := InvC_get hI 85 (((dt 79 15) + l24_3).toNat) rfl rfl
            refine go_smpq PM156 (L' := [some (.inr (.inr (some 79))), some (.inr (.inr (some 1009))), some (.inl l24_2), some (.inl l24_3)]) (st' := [.inl (dt 85 (((dt 79 15) + l24_3).toNat))]) (w' := (SH, dt)) rfl rfl (s_iald (n := 500) (f := dt 85) rfl ⟨by omega, by omega⟩) ?_
            refine go_toq PM156 (k := 2) (pc' := 49) (L' := [some (.inr (.inr (some 79))), some (.inr (.inr (some 1009))), some (.inl l24_2), some (.inl l24_3)]) (st' := [.inl l24_3, .inr (.inr (some 1009)), .inl (dt 85 (((dt 79 15) + l24_3).toNat))]) (w' := (SH, dt)) rfl ?_
            refine go_callq PM156 PM250 (Q' := _) rfl rfl rfl rfl (sp_J0_charAt_5068e_9f L xs sio (d + 0) dt hI  l24_3 (by first | exact bnd i33 (by decide) (by decide) | exact bndd i33 c39 (by decide) (by decide) | exact ⟨by fail, by fail⟩) ) ?_
            rintro _ _ ⟨rfl, h42⟩
            refine ⟨rfl, ?_⟩
            rcases h42 with ⟨v_h42, rfl, h42r, h42⟩
            refine go_ifq PM156 (k := 0) (p1 := 59) (p2 := 55) (L' := [some (.inr (.inr (some 79))), some (.inr (.inr (some 1009))), some (.inl l24_2), some (.inl l24_3)]) (st' := []) (w' := (SH, dt)) rfl (c_ne (a := dt 85 (((dt 79 15) + l24_3).toNat)) (b := v_h42) (by first | exact bnd r41 (by decide) (by decide) | exact ⟨by fail, by fail⟩) (by first | exact bnd h42r (by decide) (by decide) | exact ⟨by fail, by fail⟩)) (fun c43 => ?_) (fun c43 => ?_)
            · skip
              replace c43 := hid c43
              refine go_toq PM156 (k := 4) (pc' := 24) (L' := [some (.inr (.inr (some 79))), some (.inr (.inr (some 1009))), some (.inl 0), some (.inl (l24_3 + 1))]) (st' := []) (w' := (SH, dt)) rfl ?_
              have u21_ := hid (And.intro (unhid i35) (And.intro (unhid i36) (And.intro (unhid c40) (unhid c43))))
              exact GO.le (ih_loop37 0 (l24_3 + 1) (by first | omega | (intro z; first | fail | exact WQ_0 (by fail) (by fail) | exact WM_a ⟨by fail, by fail⟩ (by fail) | exact WQ_s (q1 (by fail)) ⟨by fail, by fail⟩ (mB_in (by fail) (by fail)).symm h42 (by fail) | exact WM_b ⟨by fail, by fail⟩ (by fail) (mB_in (by fail) (by fail)).symm h42 (by fail))) (by first | omega | (intro z; first | fail | exact WQ_0 (by fail) (by fail) | exact WM_a ⟨by fail, by fail⟩ (by fail) | exact WQ_s (q1 (by fail)) ⟨by fail, by fail⟩ (mB_in (by fail) (by fail)).symm h42 (by fail) | exact WM_b ⟨by fail, by fail⟩ (by fail) (mB_in (by fail) (by fail)).symm h42 (by fail))) (by first | omega | (intro z; first | fail | exact WQ_0 (by fail) (by fail) | exact WM_a ⟨by fail, by fail⟩ (by fail) | exact WQ_s (q1 (by fail)) ⟨by fail, by fail⟩ (mB_in (by fail) (by fail)).symm h42 (by fail) | exact WM_b ⟨by fail, by fail⟩ (by fail) (mB_in (by fail) (by fail)).symm h42 (by fail))) (by first | fail | (intro z; first | fail | exact WQ_0 (by fail) (by fail) | exact WM_a ⟨by omega, by omega⟩ (by fail) | exact WQ_s (q1 (by (have z_ := unhid u21_; omega))) ⟨by omega, by omega⟩ (mB_in (by omega) (by omega)).symm h42 (by fail) | exact WM_b ⟨by omega, by omega⟩ (by omega) (mB_in (by omega) (by omega)).symm h42 (by (have z_ := unhid u21_; omega)))) (by first | omega | (intro z; first | fail | exact WQ_0 (by fail) (by fail) | exact WM_a ⟨by fail, by fail⟩ (by fail) | exact WQ_s (q1 (by fail)) ⟨by fail, by fail⟩ (mB_in (by fail) (by fail)).symm h42 (by fail) | exact WM_b ⟨by fail, by fail⟩ (by fail) (mB_in (by fail) (by fail)).symm h42 (by fail))) (by omega)) ⟨.inl rfl, .inl rfl, .inl rfl, .inl rfl, trivial⟩
            · skip
              refine go_toq PM156 (k := 5) (pc' := 24) (L' := [some (.inr (.inr (some 79))), some (.inr (.inr (some 1009))), some (.inl 1), some (.inl (l24_3 + 1))]) (st' := []) (w' := (SH, dt)) rfl ?_
              exact GO.le (ih_loop37 1 (l24_3 + 1) (by first | omega | (intro z; first | fail | exact WQ_0 (by fail) (by fail) | exact WM_a ⟨by fail, by fail⟩ (by fail) | exact WQ_s (q1 (by fail)) ⟨by fail, by fail⟩ (mB_in (by fail) (by fail)).symm h42 (by fail) | exact WM_b ⟨by fail, by fail⟩ (by fail) (mB_in (by fail) (by fail)).symm h42 (by fail))) (by first | omega | (intro z; first | fail | exact WQ_0 (by fail) (by fail) | exact WM_a ⟨by fail, by fail⟩ (by fail) | exact WQ_s (q1 (by fail)) ⟨by fail, by fail⟩ (mB_in (by fail) (by fail)).symm h42 (by fail) | exact WM_b ⟨by fail, by fail⟩ (by fail) (mB_in (by fail) (by fail)).symm h42 (by fail))) (by first | fail | (intro z; first | fail | exact WQ_0 (by omega) (by fail) | exact WM_a ⟨by fail, by fail⟩ (by fail) | exact WQ_s (q1 (by (have z0_ := unhid i35; have z1_ := unhid i36; have z2_ := unhid c40; omega))) ⟨by omega, by omega⟩ (mB_in (by omega) (by omega)).symm h42 (by omega) | exact WM_b ⟨by fail, by fail⟩ (by fail) (mB_in (by fail) (by fail)).symm h42 (by fail))) (by first | omega | (intro z; first | fail | exact WQ_0 (by fail) (by fail) | exact WM_a ⟨by fail, by fail⟩ (by fail) | exact WQ_s (q1 (by fail)) ⟨by fail, by fail⟩ (mB_in (by fail) (by fail)).symm h42 (by fail) | exact WM_b ⟨by fail, by fail⟩ (by fail) (mB_in (by fail) (by fail)).symm h42 (by fail))) (by first | omega | (intro z; first | fail | exact WQ_0 (by fail) (by fail) | exact WM_a ⟨by fail, by fail⟩ (by fail) | exact WQ_s (q1 (by fail)) ⟨by fail, by fail⟩ (mB_in (by fail) (by fail)).symm h42 (by fail) | exact WM_b ⟨by fail, by fail⟩ (by fail) (mB_in (by fail) (by fail)).symm h42 (by fail))) (by omega)) ⟨.inl rfl, .inl rfl, .inl rfl, .inl rfl, trivial⟩
    exact GO.le (loop37 _ 1 0 (by first | omega | (intro z; first | fail | exact WQ_0 (by fail) (by fail) | exact WM_a ⟨by fail, by fail⟩ (by fail) | exact WQ_s (q1 (by fail)) ⟨by fail, by fail⟩ (mB_in (by fail) (by fail)).symm hI (by fail) | exact WM_b ⟨by fail, by fail⟩ (by fail) (mB_in (by fail) (by fail)).symm hI (by fail))) (by first | omega | (intro z; first | fail | exact WQ_0 (by fail) (by fail) | exact WM_a ⟨by fail, by fail⟩ (by fail) | exact WQ_s (q1 (by fail)) ⟨by fail, by fail⟩ (mB_in (by fail) (by fail)).symm hI (by fail) | exact WM_b ⟨by fail, by fail⟩ (by fail) (mB_in (by fail) (by fail)).symm hI (by fail))) (by first | fail | (intro z; first | fail | exact WQ_0 (by omega) (by omega) | exact WM_a ⟨by fail, by fail⟩ (by fail) | exact WQ_s (q1 (by fail)) ⟨by fail, by fail⟩ (mB_in (by fail) (by fail)).symm hI (by fail) | exact WM_b ⟨by fail, by fail⟩ (by fail) (mB_in (by fail) (by fail)).symm hI (by fail))) (by first | omega | (intro z; first | fail | exact WQ_0 (by fail) (by fail) | exact WM_a ⟨by fail, by fail⟩ (by fail) | exact WQ_s (q1 (by fail)) ⟨by fail, by fail⟩ (mB_in (by fail) (by fail)).symm hI (by fail) | exact WM_b ⟨by fail, by fail⟩ (by fail) (mB_in (by fail) (by fail)).symm hI (by fail))) (by first | omega | (intro z; first | fail | exact WQ_0 (by fail) (by fail) | exact WM_a ⟨by fail, by fail⟩ (by fail) | exact WQ_s (q1 (by fail)) ⟨by fail, by fail⟩ (mB_in (by fail) (by fail)).symm hI (by fail) | exact WM_b ⟨by fail, by fail⟩ (by fail) (mB_in (by fail) (by fail)).symm hI (by fail))) (Nat.lt_succ_self _)) ⟨.inl rfl, .inl rfl, .inl rfl, .inl rfl, trivial⟩
theorem sp_J1_charAt_3b067_10f (L : Nat) (xs : Nat → Int32) (sio : Option Nat) (d : Nat) (dt : Nat → Nat → Int) (hI : InvC dt)  (p2 : Int) (h_p2 : 0 ≤ p2 ∧ p2 ≤ 3)  : GO (am_XX L xs sio) (d + 2) 256 0 [some (.inr (.inr (some 2010))), some (.inl p2)] [] (SH, dt) (fun r w2 => w2 = (SH, dt) ∧ ((∃ v : Int, r = some (.inl v) ∧ (0 ≤ v ∧ v ≤ 65535) ∧ (v = (am_Sby.getD 10 []).getD p2.toNat 0)))) := by
  refine go_toq PM256 (k := 3) (pc' := 3) (L' := [some (.inr (.inr (some 2010))), some (.inl p2)]) (st' := [.inl 4, .inl p2]) (w' := (SH, dt)) rfl ?_
  refine go_callq PM256 PM255 (Q' := _) rfl rfl rfl rfl (sp_J0_checkIndex_df160 L xs sio (d + 0) dt hI  p2 (by first | exact h_p2 | exact bnd h_p2 (by decide) (by decide) | exact ⟨by fail, by fail⟩) 4 ⟨by decide, by decide⟩ (by first | exact True.intro | with_reducible assumption | rfl | omega | trivial)) ?_
  rintro _ _ ⟨rfl, h1⟩
  refine ⟨rfl, ?_⟩
  rcases h1 with ⟨rfl, h1⟩
  refine go_toq PM256 (k := 2) (pc' := 8) (L' := [some (.inr (.inr (some 2010))), some (.inl p2)]) (st' := [.inl p2, .inr (.inr (some 2010))]) (w' := (SH, dt)) rfl ?_
  have r2 := sby_R 10 (p2).toNat
  refine go_smpq PM256 (L' := [some (.inr (.inr (some 2010))), some (.inl p2)]) (st' := [.inl ((am_Sby.getD 10 []).getD (p2).toNat 0)]) (w' := (SH, dt)) rfl rfl (s_bald (n := 4) (f := fun q => (am_Sby.getD 10 []).getD q 0) rfl (by first | exact bndx h_p2 (by decide) (by decide) | exact ⟨by fail, by fail⟩)) ?_
  have r3 : 0 ≤ am_and ((am_Sby.getD 10 []).getD (p2).toNat 0) 255 ∧ am_and ((am_Sby.getD 10 []).getD (p2).toNat 0) 255 ≤ 255 := and_R255
  have r4 := i2c_R (am_and ((am_Sby.getD 10 []).getD (p2).toNat 0) 255)
  refine go_toq PM256 (k := 3) (pc' := 14) (L' := [some (.inr (.inr (some 2010))), some (.inl p2)]) (st' := [.inl (am_i2c (am_and ((am_Sby.getD 10 []).getD (p2).toNat 0) 255))]) (w' := (SH, dt)) rfl ?_
  refine go_retvq PM256 (v := am_i2c (am_and ((am_Sby.getD 10 []).getD (p2).toNat 0) 255)) rfl (decide_eq_true (show 0 ≤ am_i2c (am_and ((am_Sby.getD 10 []).getD (p2).toNat 0) 255) ∧ am_i2c (am_and ((am_Sby.getD 10 []).getD (p2).toNat 0) 255) < 65536 by omega)) ?_
  exact ⟨rfl, ⟨_, rfl, ⟨by omega, by omega⟩, by exact ic_id ⟨by omega, by omega⟩⟩⟩
theorem sp_J0_charAt_5068e_10f (L : Nat) (xs : Nat → Int32) (sio : Option Nat) (d : Nat) (dt : Nat → Nat → Int) (hI : InvC dt)  (p1 : Int) (h_p1 : 0 ≤ p1 ∧ p1 ≤ 3)  : GO (am_XX L xs sio) (d + 3) 250 0 [some (.inr (.inr (some 1010))), some (.inl p1)] [] (SH, dt) (fun r w2 => w2 = (SH, dt) ∧ ((∃ v : Int, r = some (.inl v) ∧ (0 ≤ v ∧ v ≤ 65535) ∧ (v = (am_Sby.getD 10 []).getD p1.toNat 0)))) := by
  refine go_toq PM250 (k := 1) (pc' := 1) (L' := [some (.inr (.inr (some 1010))), some (.inl p1)]) (st' := [.inr (.inr (some 1010))]) (w' := (SH, dt)) rfl ?_
  refine go_callq PM250 PM254 (Q' := _) rfl rfl rfl rfl (sp_J0_isLatin1_aae02_1010 L xs sio (d + 2) dt hI   ) ?_
  rintro _ _ ⟨rfl, h1⟩
  refine ⟨rfl, ?_⟩
  rcases h1 with ⟨rfl, h1⟩
  refine go_toq PM250 (k := 4) (pc' := 12) (L' := [some (.inr (.inr (some 1010))), some (.inl p1)]) (st' := [.inl p1, .inr (.inr (some 2010))]) (w' := (SH, dt)) rfl ?_
  refine go_callq PM250 PM256 (Q' := _) rfl rfl rfl rfl (sp_J1_charAt_3b067_10f L xs sio (d + 0) dt hI  p1 (by first | exact h_p1 | exact bnd h_p1 (by decide) (by decide) | exact ⟨by fail, by fail⟩) ) ?_
  rintro _ _ ⟨rfl, h2⟩
  refine ⟨rfl, ?_⟩
  rcases h2 with ⟨v_h2, rfl, h2r, h2⟩
  refine go_retvq PM250 (v := v_h2) rfl (decide_eq_true (show 0 ≤ v_h2 ∧ v_h2 < 65536 by omega)) ?_
  exact ⟨rfl, ⟨_, rfl, ⟨by omega, by omega⟩, by first | exact True.intro | with_reducible assumption | rfl | fail | trivial⟩⟩
set_option maxRecDepth 20000 in
theorem sp_X6_is_10f (L : Nat) (xs : Nat → Int32) (sio : Option Nat) (d : Nat) (dt : Nat → Nat → Int) (hI : InvC dt)   (h_p0 : dt 79 13 ≤ 500) (h_p1 : dt 79 15 ≤ dt 79 13) (h_p2 : dt 79 13 ≤ dt 79 12) : GO (am_XX L xs sio) (d + 4) 156 0 [some (.inr (.inr (some 79))), some (.inr (.inr (some 1010))), none, none] [] (SH, dt) (fun r w2 => w2 = (SH, dt) ∧ ((∃ v : Int, r = some (.inl v) ∧ (0 ≤ v ∧ v ≤ 1) ∧ (v = wm (am_Sby.getD 10 []) (mB (dt 85) (dt 79 12)) (dt 79 15).toNat (dt 79 13).toNat)))) := by
  have r1 : 0 ≤ dt 79 13 ∧ dt 79 13 ≤ 501 := InvC_get hI 79 13 rfl rfl
  have r2 : 0 ≤ dt 79 15 ∧ dt 79 15 ≤ 500 := InvC_get hI 79 15 rfl rfl
  have r3 : 0 ≤ dt 79 12 ∧ dt 79 12 ≤ 500 := InvC_get hI 79 12 rfl rfl
  have hlen : (((am_Sby.getD 10 []).length : Nat) : Int) = 4 := rfl
  refine go_toq PM156 (k := 6) (pc' := 10) (L' := [some (.inr (.inr (some 79))), some (.inr (.inr (some 1010))), none, none]) (st' := [.inr (.inr (some 1010)), .inl ((dt 79 13) - (dt 79 15))]) (w' := (SH, dt)) rfl ?_
  refine go_callq PM156 PM249 (Q' := _) rfl rfl rfl rfl (sp_J0_length_8abf5_1010 L xs sio (d + 2) dt hI   ) ?_
  rintro _ _ ⟨rfl, h4⟩
  refine ⟨rfl, ?_⟩
  rcases h4 with ⟨rfl, h4⟩
  refine go_ifq PM156 (k := 0) (p1 := 20) (p2 := 16) (L' := [some (.inr (.inr (some 79))), some (.inr (.inr (some 1010))), none, none]) (st' := []) (w' := (SH, dt)) rfl (c_ne (a := (dt 79 13) - (dt 79 15)) (b := 4) ⟨by omega, by omega⟩ ⟨by decide, by decide⟩) (fun c5 => ?_) (fun c5 => ?_)
  · skip
    replace c5 := hid c5
    refine go_toq PM156 (k := 4) (pc' := 24) (L' := [some (.inr (.inr (some 79))), some (.inr (.inr (some 1010))), some (.inl 0), some (.inl 0)]) (st' := []) (w' := (SH, dt)) rfl ?_
    have loop18 : ∀ (k_ : Nat) (l24_2 : Int) (l24_3 : Int) (i13 : 0 ≤ l24_2 ∧ l24_2 ≤ 1) (i14 : 0 ≤ l24_3 ∧ l24_3 ≤ 4) (i15 : l24_2 = 1 → WQ (am_Sby.getD 10 []) (dt 79 13 - dt 79 15) (mB (dt 85) (dt 79 12)) (dt 79 15) l24_3) (i16 : l24_2 = 0 → wm (am_Sby.getD 10 []) (mB (dt 85) (dt 79 12)) (dt 79 15).toNat (dt 79 13).toNat = 0) (i17 : l24_2 = 0 ∨ dt 79 13 - dt 79 15 = 4), (5 - l24_3).toNat < k_ → GO (am_XX L xs sio) (d + 4) 156 24 [some (.inr (.inr (some 79))), some (.inr (.inr (some 1010))), some (.inl l24_2), some (.inl l24_3)] [] (SH, dt) (fun r w2 => w2 = (SH, dt) ∧ ((∃ v : Int, r = some (.inl v) ∧ (0 ≤ v ∧ v ≤ 1) ∧ (v = wm (am_Sby.getD 10 []) (mB (dt 85) (dt 79 12)) (dt 79 15).toNat (dt 79 13).toNat)))) := by
      intro k_
      induction k_ with
      | zero => intro l24_2 l24_3 i13 i14 i15 i16 i17 hm; exact absurd hm (Nat.not_lt_zero _)
      | succ k_ ih_loop18 =>
        intro l24_2 l24_3 i13 i14 i15 i16 i17 hm
        replace i15 := hid i15
        replace i16 := hid i16
        replace i17 := hid i17
        have q1 := i15
        have q2 := i16
        refine go_toq PM156 (k := 2) (pc' := 26) (L' := [some (.inr (.inr (some 79))), some (.inr (.inr (some 1010))), some (.inl l24_2), some (.inl l24_3)]) (st' := [.inr (.inr (some 1010)), .inl l24_3]) (w' := (SH, dt)) rfl ?_
        refine go_callq PM156 PM249 (Q' := _) rfl rfl rfl rfl (sp_J0_length_8abf5_1010 L xs sio (d + 2) dt hI   ) ?_
        rintro _ _ ⟨rfl, h19⟩
        refine ⟨rfl, ?_⟩
        rcases h19 with ⟨rfl, h19⟩
        refine go_ifq PM156 (k := 0) (p1 := 67) (p2 := 32) (L' := [some (.inr (.inr (some 79))), some (.inr (.inr (some 1010))), some (.inl l24_2), some (.inl l24_3)]) (st' := []) (w' := (SH, dt)) rfl (c_ge (a := l24_3) (b := 4) (by first | exact bnd i14 (by decide) (by decide) | exact ⟨by fail, by fail⟩) ⟨by decide, by decide⟩) (fun c20 => ?_) (fun c20 => ?_)
        · skip
          refine go_toq PM156 (k := 1) (pc' := 68) (L' := [some (.inr (.inr (some 79))), some (.inr (.inr (some 1010))), some (.inl l24_2), some (.inl l24_3)]) (st' := [.inl l24_2]) (w' := (SH, dt)) rfl ?_
          refine go_retvq PM156 (v := l24_2) rfl (decide_eq_true (show l24_2 = 0 ∨ l24_2 = 1 by omega)) ?_
          exact ⟨rfl, ⟨_, rfl, ⟨by omega, by omega⟩, by rcases (show l24_2 = 0 ∨ l24_2 = 1 by omega) with z | z <;> first | (rw [q2 z]; exact z) | (rw [WM_1 (q1 z) ⟨by omega, by omega⟩ (by omega)]; exact z)⟩⟩
        · skip
          refine go_ifq PM156 (k := 1) (p1 := 67) (p2 := 36) (L' := [some (.inr (.inr (some 79))), some (.inr (.inr (some 1010))), some (.inl l24_2), some (.inl l24_3)]) (st' := []) (w' := (SH, dt)) rfl (z_eq (a := l24_2) (by first | exact bnd i13 (by decide) (by decide) | exact ⟨by fail, by fail⟩)) (fun c21 => ?_) (fun c21 => ?_)
          · skip
            refine go_toq PM156 (k := 1) (pc' := 68) (L' := [some (.inr (.inr (some 79))), some (.inr (.inr (some 1010))), some (.inl l24_2), some (.inl l24_3)]) (st' := [.inl l24_2]) (w' := (SH, dt)) rfl ?_
            refine go_retvq PM156 (v := l24_2) rfl (decide_eq_true (show l24_2 = 0 ∨ l24_2 = 1 by omega)) ?_
            exact ⟨rfl, ⟨_, rfl, ⟨by omega, by omega⟩, by rcases (show l24_2 = 0 ∨ l24_2 = 1 by omega) with z | z <;> first | (rw [q2 z]; exact z) | (rw [WM_1 (q1 z) ⟨by omega, by omega⟩ (by omega)]; exact z)⟩⟩
          · skip
            replace c21 := hid c21
            refine go_toq PM156 (k := 6) (pc' := 46) (L' := [some (.inr (.inr (some 79))), some (.inr (.inr (some 1010))), some (.inl l24_2), some (.inl l24_3)]) (st' := [.inl ((dt 79 15) + l24_3), .inr (.inr (some 85))]) (w' := (SH, dt)) rfl ?_
            have r22 : 0 ≤ dt 85 (((dt 79 15) + l24_3).toNat) ∧ dt 85 (((dt 79 15) + l24_3).toNat) ≤ 255 := InvC_get hI 85 (((dt 79 15) + l24_3).toNat) rfl rfl
            have u22_ := hid (And.intro (unhid c5) (And.intro (unhid i16) (And.intro (unhid i17) (unhid c21))))
            refine go_smpq PM156 (L' := [some (.inr (.inr (some 79))), some (.inr (.inr (some 1010))), some (.inl l24_2), some (.inl l24_3)]) (st' := [.inl (dt 85 (((dt 79 15) + l24_3).toNat))]) (w' := (SH, dt)) rfl rfl (s_iald (n := 500) (f := dt 85) rfl ⟨by omega, by (have z_ := unhid u22_; omega)⟩) ?_
            refine go_toq PM156 (k := 2) (pc' := 49) (L' := [some (.inr (.inr (some 79))), some (.inr (.inr (some 1010))), some (.inl l24_2), some (.inl l24_3)]) (st' := [.inl l24_3, .inr (.inr (some 1010)), .inl (dt 85 (((dt 79 15) + l24_3).toNat))]) (w' := (SH, dt)) rfl ?_
            refine go_callq PM156 PM250 (Q' := _) rfl rfl rfl rfl (sp_J0_charAt_5068e_10f L xs sio (d + 0) dt hI  l24_3 (by first | exact bnd i14 (by decide) (by decide) | exact bndd i14 c20 (by decide) (by decide) | exact ⟨by fail, by fail⟩) ) ?_
            rintro _ _ ⟨rfl, h23⟩
            refine ⟨rfl, ?_⟩
            rcases h23 with ⟨v_h23, rfl, h23r, h23⟩
            refine go_ifq PM156 (k := 0) (p1 := 59) (p2 := 55) (L' := [some (.inr (.inr (some 79))), some (.inr (.inr (some 1010))), some (.inl l24_2), some (.inl l24_3)]) (st' := []) (w' := (SH, dt)) rfl (c_ne (a := dt 85 (((dt 79 15) + l24_3).toNat)) (b := v_h23) (by first | exact bnd r22 (by decide) (by decide) | exact ⟨by fail, by fail⟩) (by first | exact bnd h23r (by decide) (by decide) | exact ⟨by fail, by fail⟩)) (fun c24 => ?_) (fun c24 => ?_)
            · skip
              replace c24 := hid c24
              refine go_toq PM156 (k := 4) (pc' := 24) (L' := [some (.inr (.inr (some 79))), some (.inr (.inr (some 1010))), some (.inl 0), some (.inl (l24_3 + 1))]) (st' := []) (w' := (SH, dt)) rfl ?_
              have u23_ := hid (And.intro (unhid c5) (And.intro (unhid i16) (And.intro (unhid i17) (And.intro (unhid c21) (unhid c24)))))
              exact GO.le (ih_loop18 0 (l24_3 + 1) (by first | omega | (intro z; first | fail | exact WQ_0 (by fail) (by fail) | exact WM_a ⟨by fail, by fail⟩ (by fail) | exact WQ_s (q1 (by fail)) ⟨by fail, by fail⟩ (mB_in (by fail) (by fail)).symm h23 (by fail) | exact WM_b ⟨by fail, by fail⟩ (by fail) (mB_in (by fail) (by fail)).symm h23 (by fail))) (by first | omega | (intro z; first | fail | exact WQ_0 (by fail) (by fail) | exact WM_a ⟨by fail, by fail⟩ (by fail) | exact WQ_s (q1 (by fail)) ⟨by fail, by fail⟩ (mB_in (by fail) (by fail)).symm h23 (by fail) | exact WM_b ⟨by fail, by fail⟩ (by fail) (mB_in (by fail) (by fail)).symm h23 (by fail))) (by first | omega | (intro z; first | fail | exact WQ_0 (by fail) (by fail) | exact WM_a ⟨by fail, by fail⟩ (by fail) | exact WQ_s (q1 (by fail)) ⟨by fail, by fail⟩ (mB_in (by fail) (by fail)).symm h23 (by fail) | exact WM_b ⟨by fail, by fail⟩ (by fail) (mB_in (by fail) (by fail)).symm h23 (by fail))) (by first | (have z_ := unhid u23_; omega) | (intro z; first | fail | exact WQ_0 (by fail) (by fail) | exact WM_a ⟨by fail, by fail⟩ (by fail) | exact WQ_s (q1 (by fail)) ⟨by fail, by fail⟩ (mB_in (by fail) (by fail)).symm h23 (by fail) | exact WM_b ⟨by fail, by fail⟩ (by fail) (mB_in (by fail) (by fail)).symm h23 (by fail))) (by first | omega | (intro z; first | fail | exact WQ_0 (by fail) (by fail) | exact WM_a ⟨by fail, by fail⟩ (by fail) | exact WQ_s (q1 (by fail)) ⟨by fail, by fail⟩ (mB_in (by fail) (by fail)).symm h23 (by fail) | exact WM_b ⟨by fail, by fail⟩ (by fail) (mB_in (by fail) (by fail)).symm h23 (by fail))) (by omega)) ⟨.inl rfl, .inl rfl, .inl rfl, .inl rfl, trivial⟩
            · skip
              refine go_toq PM156 (k := 5) (pc' := 24) (L' := [some (.inr (.inr (some 79))), some (.inr (.inr (some 1010))), some (.inl 1), some (.inl (l24_3 + 1))]) (st' := []) (w' := (SH, dt)) rfl ?_
              exact GO.le (ih_loop18 1 (l24_3 + 1) (by first | omega | (intro z; first | fail | exact WQ_0 (by fail) (by fail) | exact WM_a ⟨by fail, by fail⟩ (by fail) | exact WQ_s (q1 (by fail)) ⟨by fail, by fail⟩ (mB_in (by fail) (by fail)).symm h23 (by fail) | exact WM_b ⟨by fail, by fail⟩ (by fail) (mB_in (by fail) (by fail)).symm h23 (by fail))) (by first | omega | (intro z; first | fail | exact WQ_0 (by fail) (by fail) | exact WM_a ⟨by fail, by fail⟩ (by fail) | exact WQ_s (q1 (by fail)) ⟨by fail, by fail⟩ (mB_in (by fail) (by fail)).symm h23 (by fail) | exact WM_b ⟨by fail, by fail⟩ (by fail) (mB_in (by fail) (by fail)).symm h23 (by fail))) (by first | (have z_ := unhid u22_; omega) | (intro z; first | fail | exact WQ_0 (by fail) (by fail) | exact WM_a ⟨by fail, by fail⟩ (by fail) | exact WQ_s (q1 (by fail)) ⟨by fail, by fail⟩ (mB_in (by fail) (by fail)).symm h23 (by fail) | exact WM_b ⟨by fail, by fail⟩ (by fail) (mB_in (by fail) (by fail)).symm h23 (by fail))) (by first | omega | (intro z; first | fail | exact WQ_0 (by fail) (by fail) | exact WM_a ⟨by fail, by fail⟩ (by fail) | exact WQ_s (q1 (by fail)) ⟨by fail, by fail⟩ (mB_in (by fail) (by fail)).symm h23 (by fail) | exact WM_b ⟨by fail, by fail⟩ (by fail) (mB_in (by fail) (by fail)).symm h23 (by fail))) (by first | (have z_ := unhid u22_; omega) | (intro z; first | fail | exact WQ_0 (by fail) (by fail) | exact WM_a ⟨by fail, by fail⟩ (by fail) | exact WQ_s (q1 (by fail)) ⟨by fail, by fail⟩ (mB_in (by fail) (by fail)).symm h23 (by fail) | exact WM_b ⟨by fail, by fail⟩ (by fail) (mB_in (by fail) (by fail)).symm h23 (by fail))) (by omega)) ⟨.inl rfl, .inl rfl, .inl rfl, .inl rfl, trivial⟩
    exact GO.le (loop18 _ 0 0 (by first | omega | (intro z; first | fail | exact WQ_0 (by fail) (by fail) | exact WM_a ⟨by fail, by fail⟩ (by fail) | exact WQ_s (q1 (by fail)) ⟨by fail, by fail⟩ (mB_in (by fail) (by fail)).symm hI (by fail) | exact WM_b ⟨by fail, by fail⟩ (by fail) (mB_in (by fail) (by fail)).symm hI (by fail))) (by first | omega | (intro z; first | fail | exact WQ_0 (by fail) (by fail) | exact WM_a ⟨by fail, by fail⟩ (by fail) | exact WQ_s (q1 (by fail)) ⟨by fail, by fail⟩ (mB_in (by fail) (by fail)).symm hI (by fail) | exact WM_b ⟨by fail, by fail⟩ (by fail) (mB_in (by fail) (by fail)).symm hI (by fail))) (by first | omega | (intro z; first | fail | exact WQ_0 (by fail) (by fail) | exact WM_a ⟨by fail, by fail⟩ (by fail) | exact WQ_s (q1 (by fail)) ⟨by fail, by fail⟩ (mB_in (by fail) (by fail)).symm hI (by fail) | exact WM_b ⟨by fail, by fail⟩ (by fail) (mB_in (by fail) (by fail)).symm hI (by fail))) (by first | fail | (intro z; first | fail | exact WQ_0 (by fail) (by fail) | exact WM_a ⟨by omega, by omega⟩ (by (have z0_ := unhid c5; omega)) | exact WQ_s (q1 (by fail)) ⟨by fail, by fail⟩ (mB_in (by fail) (by fail)).symm hI (by fail) | exact WM_b ⟨by fail, by fail⟩ (by fail) (mB_in (by fail) (by fail)).symm hI (by fail))) (by first | omega | (intro z; first | fail | exact WQ_0 (by fail) (by fail) | exact WM_a ⟨by fail, by fail⟩ (by fail) | exact WQ_s (q1 (by fail)) ⟨by fail, by fail⟩ (mB_in (by fail) (by fail)).symm hI (by fail) | exact WM_b ⟨by fail, by fail⟩ (by fail) (mB_in (by fail) (by fail)).symm hI (by fail))) (Nat.lt_succ_self _)) ⟨.inl rfl, .inl rfl, .inl rfl, .inl rfl, trivial⟩
  · skip
    refine go_toq PM156 (k := 5) (pc' := 24) (L' := [some (.inr (.inr (some 79))), some (.inr (.inr (some 1010))), some (.inl 1), some (.inl 0)]) (st' := []) (w' := (SH, dt)) rfl ?_
    have loop37 : ∀ (k_ : Nat) (l24_2 : Int) (l24_3 : Int) (i32 : 0 ≤ l24_2 ∧ l24_2 ≤ 1) (i33 : 0 ≤ l24_3 ∧ l24_3 ≤ 4) (i34 : l24_2 = 1 → WQ (am_Sby.getD 10 []) (dt 79 13 - dt 79 15) (mB (dt 85) (dt 79 12)) (dt 79 15) l24_3) (i35 : l24_2 = 0 → wm (am_Sby.getD 10 []) (mB (dt 85) (dt 79 12)) (dt 79 15).toNat (dt 79 13).toNat = 0) (i36 : l24_2 = 0 ∨ dt 79 13 - dt 79 15 = 4), (5 - l24_3).toNat < k_ → GO (am_XX L xs sio) (d + 4) 156 24 [some (.inr (.inr (some 79))), some (.inr (.inr (some 1010))), some (.inl l24_2), some (.inl l24_3)] [] (SH, dt) (fun r w2 => w2 = (SH, dt) ∧ ((∃ v : Int, r = some (.inl v) ∧ (0 ≤ v ∧ v ≤ 1) ∧ (v = wm (am_Sby.getD 10 []) (mB (dt 85) (dt 79 12)) (dt 79 15).toNat (dt 79 13).toNat)))) := by
      intro k_
      induction k_ with
      | zero => intro l24_2 l24_3 i32 i33 i34 i35 i36 hm; exact absurd hm (Nat.not_lt_zero _)
      | succ k_ ih_loop37 =>
        intro l24_2 l24_3 i32 i33 i34 i35 i36 hm
        replace i34 := hid i34
        replace i35 := hid i35
        replace i36 := hid i36
        have q1 := i34
        have q2 := i35
        refine go_toq PM156 (k := 2) (pc' := 26) (L' := [some (.inr (.inr (some 79))), some (.inr (.inr (some 1010))), some (.inl l24_2), some (.inl l24_3)]) (st' := [.inr (.inr (some 1010)), .inl l24_3]) (w' := (SH, dt)) rfl ?_
        refine go_callq PM156 PM249 (Q' := _) rfl rfl rfl rfl (sp_J0_length_8abf5_1010 L xs sio (d + 2) dt hI   ) ?_
        rintro _ _ ⟨rfl, h38⟩
        refine ⟨rfl, ?_⟩
        rcases h38 with ⟨rfl, h38⟩
        refine go_ifq PM156 (k := 0) (p1 := 67) (p2 := 32) (L' := [some (.inr (.inr (some 79))), some (.inr (.inr (some 1010))), some (.inl l24_2), some (.inl l24_3)]) (st' := []) (w' := (SH, dt)) rfl (c_ge (a := l24_3) (b := 4) (by first | exact bnd i33 (by decide) (by decide) | exact ⟨by fail, by fail⟩) ⟨by decide, by decide⟩) (fun c39 => ?_) (fun c39 => ?_)
        · skip
          refine go_toq PM156 (k := 1) (pc' := 68) (L' := [some (.inr (.inr (some 79))), some (.inr (.inr (some 1010))), some (.inl l24_2), some (.inl l24_3)]) (st' := [.inl l24_2]) (w' := (SH, dt)) rfl ?_
          refine go_retvq PM156 (v := l24_2) rfl (decide_eq_true (show l24_2 = 0 ∨ l24_2 = 1 by omega)) ?_
          exact ⟨rfl, ⟨_, rfl, ⟨by omega, by omega⟩, by rcases (show l24_2 = 0 ∨ l24_2 = 1 by omega) with z | z <;> first | (rw [q2 z]; exact z) | (rw [WM_1 (q1 z) ⟨by omega, by omega⟩ (by omega)]; exact z)⟩⟩
        · skip
          refine go_ifq PM156 (k := 1) (p1 := 67) (p2 := 36) (L' := [some (.inr (.inr (some 79))), some (.inr (.inr (some 1010))), some (.inl l24_2), some (.inl l24_3)]) (st' := []) (w' := (SH, dt)) rfl (z_eq (a := l24_2) (by first | exact bnd i32 (by decide) (by decide) | exact ⟨by fail, by fail⟩)) (fun c40 => ?_) (fun c40 => ?_)
          · skip
            refine go_toq PM156 (k := 1) (pc' := 68) (L' := [some (.inr (.inr (some 79))), some (.inr (.inr (some 1010))), some (.inl l24_2), some (.inl l24_3)]) (st' := [.inl l24_2]) (w' := (SH, dt)) rfl ?_
            refine go_retvq PM156 (v := l24_2) rfl (decide_eq_true (show l24_2 = 0 ∨ l24_2 = 1 by omega)) ?_
            exact ⟨rfl, ⟨_, rfl, ⟨by omega, by omega⟩, by rcases (show l24_2 = 0 ∨ l24_2 = 1 by omega) with z | z <;> first | (rw [q2 z]; exact z) | (rw [WM_1 (q1 z) ⟨by omega, by omega⟩ (by omega)]; exact z)⟩⟩
          · skip
            replace c40 := hid c40
            refine go_toq PM156 (k := 6) (pc' := 46) (L' := [some (.inr (.inr (some 79))), some (.inr (.inr (some 1010))), some (.inl l24_2), some (.inl l24_3)]) (st' := [.inl ((dt 79 15) + l24_3), .inr (.inr (some 85))]) (w' := (SH, dt)) rfl ?_
            have r41 : 0 ≤ dt 85 (((dt 79 15) + l24_3).toNat) ∧ dt 85 (((dt 79 15) + l24_3).toNat) ≤ 255 := InvC_get hI 85 (((dt 79 15) + l24_3).toNat) rfl rfl
            refine go_smpq PM156 (L' := [some (.inr (.inr (some 79))), some (.inr (.inr (some 1010))), some (.inl l24_2), some (.inl l24_3)]) (st' := [.inl (dt 85 (((dt 79 15) + l24_3).toNat))]) (w' := (SH, dt)) rfl rfl (s_iald (n := 500) (f := dt 85) rfl ⟨by omega, by omega⟩) ?_
            refine go_toq PM156 (k := 2) (pc' := 49) (L' := [some (.inr (.inr (some 79))), some (.inr (.inr (some 1010))), some (.inl l24_2), some (.inl l24_3)]) (st' := [.inl l24_3, .inr (.inr (some 1010)), .inl (dt 85 (((dt 79 15) + l24_3).toNat))]) (w' := (SH, dt)) rfl ?_
            refine go_callq PM156 PM250 (Q' := _) rfl rfl rfl rfl (sp_J0_charAt_5068e_10f L xs sio (d + 0) dt hI  l24_3 (by first | exact bnd i33 (by decide) (by decide) | exact bndd i33 c39 (by decide) (by decide) | exact ⟨by fail, by fail⟩) ) ?_
            rintro _ _ ⟨rfl, h42⟩
            refine ⟨rfl, ?_⟩
            rcases h42 with ⟨v_h42, rfl, h42r, h42⟩
            refine go_ifq PM156 (k := 0) (p1 := 59) (p2 := 55) (L' := [some (.inr (.inr (some 79))), some (.inr (.inr (some 1010))), some (.inl l24_2), some (.inl l24_3)]) (st' := []) (w' := (SH, dt)) rfl (c_ne (a := dt 85 (((dt 79 15) + l24_3).toNat)) (b := v_h42) (by first | exact bnd r41 (by decide) (by decide) | exact ⟨by fail, by fail⟩) (by first | exact bnd h42r (by decide) (by decide) | exact ⟨by fail, by fail⟩)) (fun c43 => ?_) (fun c43 => ?_)
            · skip
              replace c43 := hid c43
              refine go_toq PM156 (k := 4) (pc' := 24) (L' := [some (.inr (.inr (some 79))), some (.inr (.inr (some 1010))), some (.inl 0), some (.inl (l24_3 + 1))]) (st' := []) (w' := (SH, dt)) rfl ?_
              have u24_ := hid (And.intro (unhid i35) (And.intro (unhid i36) (And.intro (unhid c40) (unhid c43))))
              exact GO.le (ih_loop37 0 (l24_3 + 1) (by first | omega | (intro z; first | fail | exact WQ_0 (by fail) (by fail) | exact WM_a ⟨by fail, by fail⟩ (by fail) | exact WQ_s (q1 (by fail)) ⟨by fail, by fail⟩ (mB_in (by fail) (by fail)).symm h42 (by fail) | exact WM_b ⟨by fail, by fail⟩ (by fail) (mB_in (by fail) (by fail)).symm h42 (by fail))) (by first | omega | (intro z; first | fail | exact WQ_0 (by fail) (by fail) | exact WM_a ⟨by fail, by fail⟩ (by fail) | exact WQ_s (q1 (by fail)) ⟨by fail, by fail⟩ (mB_in (by fail) (by fail)).symm h42 (by fail) | exact WM_b ⟨by fail, by fail⟩ (by fail) (mB_in (by fail) (by fail)).symm h42 (by fail))) (by first | omega | (intro z; first | fail | exact WQ_0 (by fail) (by fail) | exact WM_a ⟨by fail, by fail⟩ (by fail) | exact WQ_s (q1 (by fail)) ⟨by fail, by fail⟩ (mB_in (by fail) (by fail)).symm h42 (by fail) | exact WM_b ⟨by fail, by fail⟩ (by fail) (mB_in (by fail) (by fail)).symm h42 (by fail))) (by first | fail | (intro z; first | fail | exact WQ_0 (by fail) (by fail) | exact WM_a ⟨by omega, by omega⟩ (by fail) | exact WQ_s (q1 (by (have z_ := unhid u24_; omega))) ⟨by omega, by omega⟩ (mB_in (by omega) (by omega)).symm h42 (by fail) | exact WM_b ⟨by omega, by omega⟩ (by omega) (mB_in (by omega) (by omega)).symm h42 (by (have z_ := unhid u24_; omega)))) (by first | omega | (intro z; first | fail | exact WQ_0 (by fail) (by fail) | exact WM_a ⟨by fail, by fail⟩ (by fail) | exact WQ_s (q1 (by fail)) ⟨by fail, by fail⟩ (mB_in (by fail) (by fail)).symm h42 (by fail) | exact WM_b ⟨by fail, by fail⟩ (by fail) (mB_in (by fail) (by fail)).symm h42 (by fail))) (by omega)) ⟨.inl rfl, .inl rfl, .inl rfl, .inl rfl, trivial⟩
            · skip
              refine go_toq PM156 (k := 5) (pc' := 24) (L' := [some (.inr (.inr (some 79))), some (.inr (.inr (some 1010))), some (.inl 1), some (.inl (l24_3 + 1))]) (st' := []) (w' := (SH, dt)) rfl ?_
              exact GO.le (ih_loop37 1 (l24_3 + 1) (by first | omega | (intro z; first | fail | exact WQ_0 (by fail) (by fail) | exact WM_a ⟨by fail, by fail⟩ (by fail) | exact WQ_s (q1 (by fail)) ⟨by fail, by fail⟩ (mB_in (by fail) (by fail)).symm h42 (by fail) | exact WM_b ⟨by fail, by fail⟩ (by fail) (mB_in (by fail) (by fail)).symm h42 (by fail))) (by first | omega | (intro z; first | fail | exact WQ_0 (by fail) (by fail) | exact WM_a ⟨by fail, by fail⟩ (by fail) | exact WQ_s (q1 (by fail)) ⟨by fail, by fail⟩ (mB_in (by fail) (by fail)).symm h42 (by fail) | exact WM_b ⟨by fail, by fail⟩ (by fail) (mB_in (by fail) (by fail)).symm h42 (by fail))) (by first | fail | (intro z; first | fail | exact WQ_0 (by omega) (by fail) | exact WM_a ⟨by fail, by fail⟩ (by fail) | exact WQ_s (q1 (by (have z0_ := unhid i35; have z1_ := unhid i36; have z2_ := unhid c40; omega))) ⟨by omega, by omega⟩ (mB_in (by omega) (by omega)).symm h42 (by omega) | exact WM_b ⟨by fail, by fail⟩ (by fail) (mB_in (by fail) (by fail)).symm h42 (by fail))) (by first | omega | (intro z; first | fail | exact WQ_0 (by fail) (by fail) | exact WM_a ⟨by fail, by fail⟩ (by fail) | exact WQ_s (q1 (by fail)) ⟨by fail, by fail⟩ (mB_in (by fail) (by fail)).symm h42 (by fail) | exact WM_b ⟨by fail, by fail⟩ (by fail) (mB_in (by fail) (by fail)).symm h42 (by fail))) (by first | omega | (intro z; first | fail | exact WQ_0 (by fail) (by fail) | exact WM_a ⟨by fail, by fail⟩ (by fail) | exact WQ_s (q1 (by fail)) ⟨by fail, by fail⟩ (mB_in (by fail) (by fail)).symm h42 (by fail) | exact WM_b ⟨by fail, by fail⟩ (by fail) (mB_in (by fail) (by fail)).symm h42 (by fail))) (by omega)) ⟨.inl rfl, .inl rfl, .inl rfl, .inl rfl, trivial⟩
    exact GO.le (loop37 _ 1 0 (by first | omega | (intro z; first | fail | exact WQ_0 (by fail) (by fail) | exact WM_a ⟨by fail, by fail⟩ (by fail) | exact WQ_s (q1 (by fail)) ⟨by fail, by fail⟩ (mB_in (by fail) (by fail)).symm hI (by fail) | exact WM_b ⟨by fail, by fail⟩ (by fail) (mB_in (by fail) (by fail)).symm hI (by fail))) (by first | omega | (intro z; first | fail | exact WQ_0 (by fail) (by fail) | exact WM_a ⟨by fail, by fail⟩ (by fail) | exact WQ_s (q1 (by fail)) ⟨by fail, by fail⟩ (mB_in (by fail) (by fail)).symm hI (by fail) | exact WM_b ⟨by fail, by fail⟩ (by fail) (mB_in (by fail) (by fail)).symm hI (by fail))) (by first | fail | (intro z; first | fail | exact WQ_0 (by omega) (by omega) | exact WM_a ⟨by fail, by fail⟩ (by fail) | exact WQ_s (q1 (by fail)) ⟨by fail, by fail⟩ (mB_in (by fail) (by fail)).symm hI (by fail) | exact WM_b ⟨by fail, by fail⟩ (by fail) (mB_in (by fail) (by fail)).symm hI (by fail))) (by first | omega | (intro z; first | fail | exact WQ_0 (by fail) (by fail) | exact WM_a ⟨by fail, by fail⟩ (by fail) | exact WQ_s (q1 (by fail)) ⟨by fail, by fail⟩ (mB_in (by fail) (by fail)).symm hI (by fail) | exact WM_b ⟨by fail, by fail⟩ (by fail) (mB_in (by fail) (by fail)).symm hI (by fail))) (by first | omega | (intro z; first | fail | exact WQ_0 (by fail) (by fail) | exact WM_a ⟨by fail, by fail⟩ (by fail) | exact WQ_s (q1 (by fail)) ⟨by fail, by fail⟩ (mB_in (by fail) (by fail)).symm hI (by fail) | exact WM_b ⟨by fail, by fail⟩ (by fail) (mB_in (by fail) (by fail)).symm hI (by fail))) (Nat.lt_succ_self _)) ⟨.inl rfl, .inl rfl, .inl rfl, .inl rfl, trivial⟩
theorem sp_J1_charAt_3b067_11f (L : Nat) (xs : Nat → Int32) (sio : Option Nat) (d : Nat) (dt : Nat → Nat → Int) (hI : InvC dt)  (p2 : Int) (h_p2 : 0 ≤ p2 ∧ p2 ≤ 3)  : GO (am_XX L xs sio) (d + 2) 256 0 [some (.inr (.inr (some 2011))), some (.inl p2)] [] (SH, dt) (fun r w2 => w2 = (SH, dt) ∧ ((∃ v : Int, r = some (.inl v) ∧ (0 ≤ v ∧ v ≤ 65535) ∧ (v = (am_Sby.getD 11 []).getD p2.toNat 0)))) := by
  refine go_toq PM256 (k := 3) (pc' := 3) (L' := [some (.inr (.inr (some 2011))), some (.inl p2)]) (st' := [.inl 4, .inl p2]) (w' := (SH, dt)) rfl ?_
  refine go_callq PM256 PM255 (Q' := _) rfl rfl rfl rfl (sp_J0_checkIndex_df160 L xs sio (d + 0) dt hI  p2 (by first | exact h_p2 | exact bnd h_p2 (by decide) (by decide) | exact ⟨by fail, by fail⟩) 4 ⟨by decide, by decide⟩ (by first | exact True.intro | with_reducible assumption | rfl | omega | trivial)) ?_
  rintro _ _ ⟨rfl, h1⟩
  refine ⟨rfl, ?_⟩
  rcases h1 with ⟨rfl, h1⟩
  refine go_toq PM256 (k := 2) (pc' := 8) (L' := [some (.inr (.inr (some 2011))), some (.inl p2)]) (st' := [.inl p2, .inr (.inr (some 2011))]) (w' := (SH, dt)) rfl ?_
  have r2 := sby_R 11 (p2).toNat
  refine go_smpq PM256 (L' := [some (.inr (.inr (some 2011))), some (.inl p2)]) (st' := [.inl ((am_Sby.getD 11 []).getD (p2).toNat 0)]) (w' := (SH, dt)) rfl rfl (s_bald (n := 4) (f := fun q => (am_Sby.getD 11 []).getD q 0) rfl (by first | exact bndx h_p2 (by decide) (by decide) | exact ⟨by fail, by fail⟩)) ?_
  have r3 : 0 ≤ am_and ((am_Sby.getD 11 []).getD (p2).toNat 0) 255 ∧ am_and ((am_Sby.getD 11 []).getD (p2).toNat 0) 255 ≤ 255 := and_R255
  have r4 := i2c_R (am_and ((am_Sby.getD 11 []).getD (p2).toNat 0) 255)
  refine go_toq PM256 (k := 3) (pc' := 14) (L' := [some (.inr (.inr (some 2011))), some (.inl p2)]) (st' := [.inl (am_i2c (am_and ((am_Sby.getD 11 []).getD (p2).toNat 0) 255))]) (w' := (SH, dt)) rfl ?_
  refine go_retvq PM256 (v := am_i2c (am_and ((am_Sby.getD 11 []).getD (p2).toNat 0) 255)) rfl (decide_eq_true (show 0 ≤ am_i2c (am_and ((am_Sby.getD 11 []).getD (p2).toNat 0) 255) ∧ am_i2c (am_and ((am_Sby.getD 11 []).getD (p2).toNat 0) 255) < 65536 by omega)) ?_
  exact ⟨rfl, ⟨_, rfl, ⟨by omega, by omega⟩, by exact ic_id ⟨by omega, by omega⟩⟩⟩
theorem sp_J0_charAt_5068e_11f (L : Nat) (xs : Nat → Int32) (sio : Option Nat) (d : Nat) (dt : Nat → Nat → Int) (hI : InvC dt)  (p1 : Int) (h_p1 : 0 ≤ p1 ∧ p1 ≤ 3)  : GO (am_XX L xs sio) (d + 3) 250 0 [some (.inr (.inr (some 1011))), some (.inl p1)] [] (SH, dt) (fun r w2 => w2 = (SH, dt) ∧ ((∃ v : Int, r = some (.inl v) ∧ (0 ≤ v ∧ v ≤ 65535) ∧ (v = (am_Sby.getD 11 []).getD p1.toNat 0)))) := by
  refine go_toq PM250 (k := 1) (pc' := 1) (L' := [some (.inr (.inr (some 1011))), some (.inl p1)]) (st' := [.inr (.inr (some 1011))]) (w' := (SH, dt)) rfl ?_
  refine go_callq PM250 PM254 (Q' := _) rfl rfl rfl rfl (sp_J0_isLatin1_aae02_1011 L xs sio (d + 2) dt hI   ) ?_
  rintro _ _ ⟨rfl, h1⟩
  refine ⟨rfl, ?_⟩
  rcases h1 with ⟨rfl, h1⟩
  refine go_toq PM250 (k := 4) (pc' := 12) (L' := [some (.inr (.inr (some 1011))), some (.inl p1)]) (st' := [.inl p1, .inr (.inr (some 2011))]) (w' := (SH, dt)) rfl ?_
  refine go_callq PM250 PM256 (Q' := _) rfl rfl rfl rfl (sp_J1_charAt_3b067_11f L xs sio (d + 0) dt hI  p1 (by first | exact h_p1 | exact bnd h_p1 (by decide) (by decide) | exact ⟨by fail, by fail⟩) ) ?_
  rintro _ _ ⟨rfl, h2⟩
  refine ⟨rfl, ?_⟩
  rcases h2 with ⟨v_h2, rfl, h2r, h2⟩
  refine go_retvq PM250 (v := v_h2) rfl (decide_eq_true (show 0 ≤ v_h2 ∧ v_h2 < 65536 by omega)) ?_
  exact ⟨rfl, ⟨_, rfl, ⟨by omega, by omega⟩, by first | exact True.intro | with_reducible assumption | rfl | fail | trivial⟩⟩
set_option maxRecDepth 20000 in
theorem sp_X6_is_11f (L : Nat) (xs : Nat → Int32) (sio : Option Nat) (d : Nat) (dt : Nat → Nat → Int) (hI : InvC dt)   (h_p0 : dt 79 13 ≤ 500) (h_p1 : dt 79 15 ≤ dt 79 13) (h_p2 : dt 79 13 ≤ dt 79 12) : GO (am_XX L xs sio) (d + 4) 156 0 [some (.inr (.inr (some 79))), some (.inr (.inr (some 1011))), none, none] [] (SH, dt) (fun r w2 => w2 = (SH, dt) ∧ ((∃ v : Int, r = some (.inl v) ∧ (0 ≤ v ∧ v ≤ 1) ∧ (v = wm (am_Sby.getD 11 []) (mB (dt 85) (dt 79 12)) (dt 79 15).toNat (dt 79 13).toNat)))) := by
  have r1 : 0 ≤ dt 79 13 ∧ dt 79 13 ≤ 501 := InvC_get hI 79 13 rfl rfl
  have r2 : 0 ≤ dt 79 15 ∧ dt 79 15 ≤ 500 := InvC_get hI 79 15 rfl rfl
  have r3 : 0 ≤ dt 79 12 ∧ dt 79 12 ≤ 500 := InvC_get hI 79 12 rfl rfl
  have hlen : (((am_Sby.getD 11 []).length : Nat) : Int) = 4 := rfl
  refine go_toq PM156 (k := 6) (pc' := 10) (L' := [some (.inr (.inr (some 79))), some (.inr (.inr (some 1011))), none, none]) (st' := [.inr (.inr (some 1011)), .inl ((dt 79 13) - (dt 79 15))]) (w' := (SH, dt)) rfl ?_
  refine go_callq PM156 PM249 (Q' := _) rfl rfl rfl rfl (sp_J0_length_8abf5_1011 L xs sio (d + 2) dt hI   ) ?_
  rintro _ _ ⟨rfl, h4⟩
  refine ⟨rfl, ?_⟩
  rcases h4 with ⟨rfl, h4⟩
  refine go_ifq PM156 (k := 0) (p1 := 20) (p2 := 16) (L' := [some (.inr (.inr (some 79))), some (.inr (.inr (some 1011))), none, none]) (st' := []) (w' := (SH, dt)) rfl (c_ne (a := (dt 79 13) - (dt 79 15)) (b := 4) ⟨by omega, by omega⟩ ⟨by decide, by decide⟩) (fun c5 => ?_) (fun c5 => ?_)
  · skip
    replace c5 := hid c5
    refine go_toq PM156 (k := 4) (pc' := 24) (L' := [some (.inr (.inr (some 79))), some (.inr (.inr (some 1011))), some (.inl 0), some (.inl 0)]) (st' := []) (w' := (SH, dt)) rfl ?_
    have loop18 : ∀ (k_ : Nat) (l24_2 : Int) (l24_3 : Int) (i13 : 0 ≤ l24_2 ∧ l24_2 ≤ 1) (i14 : 0 ≤ l24_3 ∧ l24_3 ≤ 4) (i15 : l24_2 = 1 → WQ (am_Sby.getD 11 []) (dt 79 13 - dt 79 15) (mB (dt 85) (dt 79 12)) (dt 79 15) l24_3) (i16 : l24_2 = 0 → wm (am_Sby.getD 11 []) (mB (dt 85) (dt 79 12)) (dt 79 15).toNat (dt 79 13).toNat = 0) (i17 : l24_2 = 0 ∨ dt 79 13 - dt 79 15 = 4), (5 - l24_3).toNat < k_ → GO (am_XX L xs sio) (d + 4) 156 24 [some (.inr (.inr (some 79))), some (.inr (.inr (some 1011))), some (.inl l24_2), some (.inl l24_3)] [] (SH, dt) (fun r w2 => w2 = (SH, dt) ∧ ((∃ v : Int, r = some (.inl v) ∧ (0 ≤ v ∧ v ≤ 1) ∧ (v = wm (am_Sby.getD 11 []) (mB (dt 85) (dt 79 12)) (dt 79 15).toNat (dt 79 13).toNat)))) := by
      intro k_
      induction k_ with
      | zero => intro l24_2 l24_3 i13 i14 i15 i16 i17 hm; exact absurd hm (Nat.not_lt_zero _)
      | succ k_ ih_loop18 =>
        intro l24_2 l24_3 i13 i14 i15 i16 i17 hm
        replace i15 := hid i15
        replace i16 := hid i16
        replace i17 := hid i17
        have q1 := i15
        have q2 := i16
        refine go_toq PM156 (k := 2) (pc' := 26) (L' := [some (.inr (.inr (some 79))), some (.inr (.inr (some 1011))), some (.inl l24_2), some (.inl l24_3)]) (st' := [.inr (.inr (some 1011)), .inl l24_3]) (w' := (SH, dt)) rfl ?_
        refine go_callq PM156 PM249 (Q' := _) rfl rfl rfl rfl (sp_J0_length_8abf5_1011 L xs sio (d + 2) dt hI   ) ?_
        rintro _ _ ⟨rfl, h19⟩
        refine ⟨rfl, ?_⟩
        rcases h19 with ⟨rfl, h19⟩
        refine go_ifq PM156 (k := 0) (p1 := 67) (p2 := 32) (L' := [some (.inr (.inr (some 79))), some (.inr (.inr (some 1011))), some (.inl l24_2), some (.inl l24_3)]) (st' := []) (w' := (SH, dt)) rfl (c_ge (a := l24_3) (b := 4) (by first | exact bnd i14 (by decide) (by decide) | exact ⟨by fail, by fail⟩) ⟨by decide, by decide⟩) (fun c20 => ?_) (fun c20 => ?_)
        · skip
          refine go_toq PM156 (k := 1) (pc' := 68) (L' := [some (.inr (.inr (some 79))), some (.inr (.inr (some 1011))), some (.inl l24_2), some (.inl l24_3)]) (st' := [.inl l24_2]) (w' := (SH, dt)) rfl ?_
          refine go_retvq PM156 (v := l24_2) rfl (decide_eq_true (show l24_2 = 0 ∨ l24_2 = 1 by omega)) ?_
          exact ⟨rfl, ⟨_, rfl, ⟨by omega, by omega⟩, by rcases (show l24_2 = 0 ∨ l24_2 = 1 by omega) with z | z <;> first | (rw [q2 z]; exact z) | (rw [WM_1 (q1 z) ⟨by omega, by omega⟩ (by omega)]; exact z)⟩⟩
        · skip
          refine go_ifq PM156 (k := 1) (p1 := 67) (p2 := 36) (L' := [some (.inr (.inr (some 79))), some (.inr (.inr (some 1011))), some (.inl l24_2), some (.inl l24_3)]) (st' := []) (w' := (SH, dt)) rfl (z_eq (a := l24_2) (by first | exact bnd i13 (by decide) (by decide) | exact ⟨by fail, by fail⟩)) (fun c21 => ?_) (fun c21 => ?_)
          · skip
            refine go_toq PM156 (k := 1) (pc' := 68) (L' := [some (.inr (.inr (some 79))), some (.inr (.inr (some 1011))), some (.inl l24_2), some (.inl l24_3)]) (st' := [.inl l24_2]) (w' := (SH, dt)) rfl ?_
            refine go_retvq PM156 (v := l24_2) rfl (decide_eq_true (show l24_2 = 0 ∨ l24_2 = 1 by omega)) ?_
            exact ⟨rfl, ⟨_, rfl, ⟨by omega, by omega⟩, by rcases (show l24_2 = 0 ∨ l24_2 = 1 by omega) with z | z <;> first | (rw [q2 z]; exact z) | (rw [WM_1 (q1 z) ⟨by omega, by omega⟩ (by omega)]; exact z)⟩⟩
          · skip
            replace c21 := hid c21
            refine go_toq PM156 (k := 6) (pc' := 46) (L' := [some (.inr (.inr (some 79))), some (.inr (.inr (some 1011))), some (.inl l24_2), some (.inl l24_3)]) (st' := [.inl ((dt 79 15) + l24_3), .inr (.inr (some 85))]) (w' := (SH, dt)) rfl ?_
            have r22 : 0 ≤ dt 85 (((dt 79 15) + l24_3).toNat) ∧ dt 85 (((dt 79 15) + l24_3).toNat) ≤ 255 := InvC_get hI 85 (((dt 79 15) + l24_3).toNat) rfl rfl
            have u25_ := hid (And.intro (unhid c5) (And.intro (unhid i16) (And.intro (unhid i17) (unhid c21))))
            refine go_smpq PM156 (L' := [some (.inr (.inr (some 79))), some (.inr (.inr (some 1011))), some (.inl l24_2), some (.inl l24_3)]) (st' := [.inl (dt 85 (((dt 79 15) + l24_3).toNat))]) (w' := (SH, dt)) rfl rfl (s_iald (n := 500) (f := dt 85) rfl ⟨by omega, by (have z_ := unhid u25_; omega)⟩) ?_
            refine go_toq PM156 (k := 2) (pc' := 49) (L' := [some (.inr (.inr (some 79))), some (.inr (.inr (some 1011))), some (.inl l24_2), some (.inl l24_3)]) (st' := [.inl l24_3, .inr (.inr (some 1011)), .inl (dt 85 (((dt 79 15) + l24_3).toNat))]) (w' := (SH, dt)) rfl ?_
            refine go_callq PM156 PM250 (Q' := _) rfl rfl rfl rfl (sp_J0_charAt_5068e_11f L xs sio (d + 0) dt hI  l24_3 (by first | exact bnd i14 (by decide) (by decide) | exact bndd i14 c20 (by decide) (by decide) | exact ⟨by fail, by fail⟩) ) ?_
            rintro _ _ ⟨rfl, h23⟩
            refine ⟨rfl, ?_⟩
            rcases h23 with ⟨v_h23, rfl, h23r, h23⟩
            refine go_ifq PM156 (k := 0) (p1 := 59) (p2 := 55) (L' := [some (.inr (.inr (some 79))), some (.inr (.inr (some 1011))), some (.inl l24_2), some (.inl l24_3)]) (st' := []) (w' := (SH, dt)) rfl (c_ne (a := dt 85 (((dt 79 15) + l24_3).toNat)) (b := v_h23) (by first | exact bnd r22 (by decide) (by decide) | exact ⟨by fail, by fail⟩) (by first | exact bnd h23r (by decide) (by decide) | exact ⟨by fail, by fail⟩)) (fun c24 => ?_) (fun c24 => ?_)
            · skip
              replace c24 := hid c24
              refine go_toq PM156 (k := 4) (pc' := 24) (L' := [some (.inr (.inr (some 79))), some (.inr (.inr (some 1011))), some (.inl 0), some (.inl (l24_3 + 1))]) (st' := []) (w' := (SH, dt)) rfl ?_
              have u26_ := hid (And.intro (unhid c5) (And.intro (unhid i16) (And.intro (unhid i17) (And.intro (unhid c21) (unhid c24)))))
              exact GO.le (ih_loop18 0 (l24_3 + 1) (by first | omega | (intro z; first | fail | exact WQ_0 (by fail) (by fail) | exact WM_a ⟨by fail, by fail⟩ (by fail) | exact WQ_s (q1 (by fail)) ⟨by fail, by fail⟩ (mB_in (by fail) (by fail)).symm h23 (by fail) | exact WM_b ⟨by fail, by fail⟩ (by fail) (mB_in (by fail) (by fail)).symm h23 (by fail))) (by first | omega | (intro z; first | fail | exact WQ_0 (by fail) (by fail) | exact WM_a ⟨by fail, by fail⟩ (by fail) | exact WQ_s (q1 (by fail)) ⟨by fail, by fail⟩ (mB_in (by fail) (by fail)).symm h23 (by fail) | exact WM_b ⟨by fail, by fail⟩ (by fail) (mB_in (by fail) (by fail)).symm h23 (by fail))) (by first | omega | (intro z; first | fail | exact WQ_0 (by fail) (by fail) | exact WM_a ⟨by fail, by fail⟩ (by fail) | exact WQ_s (q1 (by fail)) ⟨by fail, by fail⟩ (mB_in (by fail) (by fail)).symm h23 (by fail) | exact WM_b ⟨by fail, by fail⟩ (by fail) (mB_in (by fail) (by fail)).symm h23 (by fail))) (by first | (have z_ := unhid u26_; omega) | (intro z; first | fail | exact WQ_0 (by fail) (by fail) | exact WM_a ⟨by fail, by fail⟩ (by fail) | exact WQ_s (q1 (by fail)) ⟨by fail, by fail⟩ (mB_in (by fail) (by fail)).symm h23 (by fail) | exact WM_b ⟨by fail, by fail⟩ (by fail) (mB_in (by fail) (by fail)).symm h23 (by fail))) (by first | omega | (intro z; first | fail | exact WQ_0 (by fail) (by fail) | exact WM_a ⟨by fail, by fail⟩ (by fail) | exact WQ_s (q1 (by fail)) ⟨by fail, by fail⟩ (mB_in (by fail) (by fail)).symm h23 (by fail) | exact WM_b ⟨by fail, by fail⟩ (by fail) (mB_in (by fail) (by fail)).symm h23 (by fail))) (by omega)) ⟨.inl rfl, .inl rfl, .inl rfl, .inl rfl, trivial⟩
            · skip
              refine go_toq PM156 (k := 5) (pc' := 24) (L' := [some (.inr (.inr (some 79))), some (.inr (.inr (some 1011))), some (.inl 1), some (.inl (l24_3 + 1))]) (st' := []) (w' := (SH, dt)) rfl ?_
              exact GO.le (ih_loop18 1 (l24_3 + 1) (by first | omega | (intro z; first | fail | exact WQ_0 (by fail) (by fail) | exact WM_a ⟨by fail, by fail⟩ (by fail) | exact WQ_s (q1 (by fail)) ⟨by fail, by fail⟩ (mB_in (by fail) (by fail)).symm h23 (by fail) | exact WM_b ⟨by fail, by fail⟩ (by fail) (mB_in (by fail) (by fail)).symm h23 (by fail))) (by first | omega | (intro z; first | fail | exact WQ_0 (by fail) (by fail) | exact WM_a ⟨by fail, by fail⟩ (by fail) | exact WQ_s (q1 (by fail)) ⟨by fail, by fail⟩ (mB_in (by fail) (by fail)).symm h23 (by fail) | exact WM_b ⟨by fail, by fail⟩ (by fail) (mB_in (by fail) (by fail)).symm h23 (by fail))) (by first | (have z_ := unhid u25_; omega) | (intro z; first | fail | exact WQ_0 (by fail) (by fail) | exact WM_a ⟨by fail, by fail⟩ (by fail) | exact WQ_s (q1 (by fail)) ⟨by fail, by fail⟩ (mB_in (by fail) (by fail)).symm h23 (by fail) | exact WM_b ⟨by fail, by fail⟩ (by fail) (mB_in (by fail) (by fail)).symm h23 (by fail))) (by first | omega | (intro z; first | fail | exact WQ_0 (by fail) (by fail) | exact WM_a ⟨by fail, by fail⟩ (by fail) | exact WQ_s (q1 (by fail)) ⟨by fail, by fail⟩ (mB_in (by fail) (by fail)).symm h23 (by fail) | exact WM_b ⟨by fail, by fail⟩ (by fail) (mB_in (by fail) (by fail)).symm h23 (by fail))) (by first | (have z_ := unhid u25_; omega) | (intro z; first | fail | exact WQ_0 (by fail) (by fail) | exact WM_a ⟨by fail, by fail⟩ (by fail) | exact WQ_s (q1 (by fail)) ⟨by fail, by fail⟩ (mB_in (by fail) (by fail)).symm h23 (by fail) | exact WM_b ⟨by fail, by fail⟩ (by fail) (mB_in (by fail) (by fail)).symm h23 (by fail))) (by omega)) ⟨.inl rfl, .inl rfl, .inl rfl, .inl rfl, trivial⟩
    exact GO.le (loop18 _ 0 0 (by first | omega | (intro z; first | fail | exact WQ_0 (by fail) (by fail) | exact WM_a ⟨by fail, by fail⟩ (by fail) | exact WQ_s (q1 (by fail)) ⟨by fail, by fail⟩ (mB_in (by fail) (by fail)).symm hI (by fail) | exact WM_b ⟨by fail, by fail⟩ (by fail) (mB_in (by fail) (by fail)).symm hI (by fail))) (by first | omega | (intro z; first | fail | exact WQ_0 (by fail) (by fail) | exact WM_a ⟨by fail, by fail⟩ (by fail) | exact WQ_s (q1 (by fail)) ⟨by fail, by fail⟩ (mB_in (by fail) (by fail)).symm hI (by fail) | exact WM_b ⟨by fail, by fail⟩ (by fail) (mB_in (by fail) (by fail)).symm hI (by fail))) (by first | omega | (intro z; first | fail | exact WQ_0 (by fail) (by fail) | exact WM_a ⟨by fail, by fail⟩ (by fail) | exact WQ_s (q1 (by fail)) ⟨by fail, by fail⟩ (mB_in (by fail) (by fail)).symm hI (by fail) | exact WM_b ⟨by fail, by fail⟩ (by fail) (mB_in (by fail) (by fail)).symm hI (by fail))) (by first | fail | (intro z; first | fail | exact WQ_0 (by fail) (by fail) | exact WM_a ⟨by omega, by omega⟩ (by (have z0_ := unhid c5; omega)) | exact WQ_s (q1 (by fail)) ⟨by fail, by fail⟩ (mB_in (by fail) (by fail)).symm hI (by fail) | exact WM_b ⟨by fail, by fail⟩ (by fail) (mB_in (by fail) (by fail)).symm hI (by fail))) (by first | omega | (intro z; first | fail | exact WQ_0 (by fail) (by fail) | exact WM_a ⟨by fail, by fail⟩ (by fail) | exact WQ_s (q1 (by fail)) ⟨by fail, by fail⟩ (mB_in (by fail) (by fail)).symm hI (by fail) | exact WM_b ⟨by fail, by fail⟩ (by fail) (mB_in (by fail) (by fail)).symm hI (by fail))) (Nat.lt_succ_self _)) ⟨.inl rfl, .inl rfl, .inl rfl, .inl rfl, trivial⟩
  · skip
    refine go_toq PM156 (k := 5) (pc' := 24) (L' := [some (.inr (.inr (some 79))), some (.inr (.inr (some 1011))), some (.inl 1), some (.inl 0)]) (st' := []) (w' := (SH, dt)) rfl ?_
    have loop37 : ∀ (k_ : Nat) (l24_2 : Int) (l24_3 : Int) (i32 : 0 ≤ l24_2 ∧ l24_2 ≤ 1) (i33 : 0 ≤ l24_3 ∧ l24_3 ≤ 4) (i34 : l24_2 = 1 → WQ (am_Sby.getD 11 []) (dt 79 13 - dt 79 15) (mB (dt 85) (dt 79 12)) (dt 79 15) l24_3) (i35 : l24_2 = 0 → wm (am_Sby.getD 11 []) (mB (dt 85) (dt 79 12)) (dt 79 15).toNat (dt 79 13).toNat = 0) (i36 : l24_2 = 0 ∨ dt 79 13 - dt 79 15 = 4), (5 - l24_3).toNat < k_ → GO (am_XX L xs sio) (d + 4) 156 24 [some (.inr (.inr (some 79))), some (.inr (.inr (some 1011))), some (.inl l24_2), some (.inl l24_3)] [] (SH, dt) (fun r w2 => w2 = (SH, dt) ∧ ((∃ v : Int, r = some (.inl v) ∧ (0 ≤ v ∧ v ≤ 1) ∧ (v = wm (am_Sby.getD 11 []) (mB (dt 85) (dt 79 12)) (dt 79 15).toNat (dt 79 13).toNat)))) := by
      intro k_
      induction k_ with
      | zero => intro l24_2 l24_3 i32 i33 i34 i35 i36 hm; exact absurd hm (Nat.not_lt_zero _)
      | succ k_ ih_loop37 =>
        intro l24_2 l24_3 i32 i33 i34 i35 i36 hm
        replace i34 := hid i34
        replace i35 := hid i35
        replace i36 := hid i36
        have q1 := i34
        have q2 := i35
        refine go_toq PM156 (k := 2) (pc' := 26) (L' := [some (.inr (.inr (some 79))), some (.inr (.inr (some 1011))), some (.inl l24_2), some (.inl l24_3)]) (st' := [.inr (.inr (some 1011)), .inl l24_3]) (w' := (SH, dt)) rfl ?_
        refine go_callq PM156 PM249 (Q' := _) rfl rfl rfl rfl (sp_J0_length_8abf5_1011 L xs sio (d + 2) dt hI   ) ?_
        rintro _ _ ⟨rfl, h38⟩
        refine ⟨rfl, ?_⟩
        rcases h38 with ⟨rfl, h38⟩
        refine go_ifq PM156 (k := 0) (p1 := 67) (p2 := 32) (L' := [some (.inr (.inr (some 79))), some (.inr (.inr (some 1011))), some (.inl l24_2), some (.inl l24_3)]) (st' := []) (w' := (SH, dt)) rfl (c_ge (a := l24_3) (b := 4) (by first | exact bnd i33 (by decide) (by decide) | exact ⟨by fail, by fail⟩) ⟨by decide, by decide⟩) (fun c39 => ?_) (fun c39 => ?_)
        · skip
          refine go_toq PM156 (k := 1) (pc' := 68) (L' := [some (.inr (.inr (some 79))), some (.inr (.inr (some 1011))), some (.inl l24_2), some (.inl l24_3)]) (st' := [.inl l24_2]) (w' := (SH, dt)) rfl ?_
          refine go_retvq PM156 (v := l24_2) rfl (decide_eq_true (show l24_2 = 0 ∨ l24_2 = 1 by omega)) ?_
          exact ⟨rfl, ⟨_, rfl, ⟨by omega, by omega⟩, by rcases (show l24_2 = 0 ∨ l24_2 = 1 by omega) with z | z <;> first | (rw [q2 z]; exact z) | (rw [WM_1 (q1 z) ⟨by omega, by omega⟩ (by omega)]; exact z)⟩⟩
        · skip
          refine go_ifq PM156 (k := 1) (p1 := 67) (p2 := 36) (L' := [some (.inr (.inr (some 79))), some (.inr (.inr (some 1011))), some (.inl l24_2), some (.inl l24_3)]) (st' := []) (w' := (SH, dt)) rfl (z_eq (a := l24_2) (by first | exact bnd i32 (by decide) (by decide) | exact ⟨by fail, by fail⟩)) (fun c40 => ?_) (fun c40 => ?_)
          · skip
            refine go_toq PM156 (k := 1) (pc' := 68) (L' := [some (.inr (.inr (some 79))), some (.inr (.inr (some 1011))), some (.inl l24_2), some (.inl l24_3)]) (st' := [.inl l24_2]) (w' := (SH, dt)) rfl ?_
            refine go_retvq PM156 (v := l24_2) rfl (decide_eq_true (show l24_2 = 0 ∨ l24_2 = 1 by omega)) ?_
            exact ⟨rfl, ⟨_, rfl, ⟨by omega, by omega⟩, by rcases (show l24_2 = 0 ∨ l24_2 = 1 by omega) with z | z <;> first | (rw [q2 z]; exact z) | (rw [WM_1 (q1 z) ⟨by omega, by omega⟩ (by omega)]; exact z)⟩⟩
          · skip
            replace c40 := hid c40
            refine go_toq PM156 (k := 6) (pc' := 46) (L' := [some (.inr (.inr (some 79))), some (.inr (.inr (some 1011))), some (.inl l24_2), some (.inl l24_3)]) (st' := [.inl ((dt 79 15) + l24_3), .inr (.inr (some 85))]) (w' := (SH, dt)) rfl ?_
            have r41 : 0 ≤ dt 85 (((dt 79 15) + l24_3).toNat) ∧ dt 85 (((dt 79 15) + l24_3).toNat) ≤ 255 := InvC_get hI 85 (((dt 79 15) + l24_3).toNat) rfl rfl
            refine go_smpq PM156 (L' := [some (.inr (.inr (some 79))), some (.inr (.inr (some 1011))), some (.inl l24_2), some (.inl l24_3)]) (st' := [.inl (dt 85 (((dt 79 15) + l24_3).toNat))]) (w' := (SH, dt)) rfl rfl (s_iald (n := 500) (f := dt 85) rfl ⟨by omega, by omega⟩) ?_
            refine go_toq PM156 (k := 2) (pc' := 49) (L' := [some (.inr (.inr (some 79))), some (.inr (.inr (some 1011))), some (.inl l24_2), some (.inl l24_3)]) (st' := [.inl l24_3, .inr (.inr (some 1011)), .inl (dt 85 (((dt 79 15) + l24_3).toNat))]) (w' := (SH, dt)) rfl ?_
            refine go_callq PM156 PM250 (Q' := _) rfl rfl rfl rfl (sp_J0_charAt_5068e_11f L xs sio (d + 0) dt hI  l24_3 (by first | exact bnd i33 (by decide) (by decide) | exact bndd i33 c39 (by decide) (by decide) | exact ⟨by fail, by fail⟩) ) ?_
            rintro _ _ ⟨rfl, h42⟩
            refine ⟨rfl, ?_⟩
            rcases h42 with ⟨v_h42, rfl, h42r, h42⟩
            refine go_ifq PM156 (k := 0) (p1 := 59) (p2 := 55) (L' := [some (.inr (.inr (some 79))), some (.inr (.inr (some 1011))), some (.inl l24_2), some (.inl l24_3)]) (st' := []) (w' := (SH, dt)) rfl (c_ne (a := dt 85 (((dt 79 15) + l24_3).toNat)) (b := v_h42) (by first | exact bnd r41 (by decide) (by decide) | exact ⟨by fail, by fail⟩) (by first | exact bnd h42r (by decide) (by decide) | exact ⟨by fail, by fail⟩)) (fun c43 => ?_) (fun c43 => ?_)
            · skip
              replace c43 := hid c43
              refine go_toq PM156 (k := 4) (pc' := 24) (L' := [some (.inr (.inr (some 79))), some (.inr (.inr (some 1011))), some (.inl 0), some (.inl (l24_3 + 1))]) (st' := []) (w' := (SH, dt)) rfl ?_
              have u27_ := hid (And.intro (unhid i35) (And.intro (unhid i36) (And.intro (unhid c40) (unhid c43))))
              exact GO.le (ih_loop37 0 (l24_3 + 1) (by first | omega | (intro z; first | fail | exact WQ_0 (by fail) (by fail) | exact WM_a ⟨by fail, by fail⟩ (by fail) | exact WQ_s (q1 (by fail)) ⟨by fail, by fail⟩ (mB_in (by fail) (by fail)).symm h42 (by fail) | exact WM_b ⟨by fail, by fail⟩ (by fail) (mB_in (by fail) (by fail)).symm h42 (by fail))) (by first | omega | (intro z; first | fail | exact WQ_0 (by fail) (by fail) | exact WM_a ⟨by fail, by fail⟩ (by fail) | exact WQ_s (q1 (by fail)) ⟨by fail, by fail⟩ (mB_in (by fail) (by fail)).symm h42 (by fail) | exact WM_b ⟨by fail, by fail⟩ (by fail) (mB_in (by fail) (by fail)).symm h42 (by fail))) (by first | omega | (intro z; first | fail | exact WQ_0 (by fail) (by fail) | exact WM_a ⟨by fail, by fail⟩ (by fail) | exact WQ_s (q1 (by fail)) ⟨by fail, by fail⟩ (mB_in (by fail) (by fail)).symm h42 (by fail) | exact WM_b ⟨by fail, by fail⟩ (by fail) (mB_in (by fail) (by fail)).symm h42 (by fail))) (by first | fail | (intro z; first | fail | exact WQ_0 (by fail) (by fail) | exact WM_a ⟨by omega, by omega⟩ (by fail) | exact WQ_s (q1 (by (have z_ := unhid u27_; omega))) ⟨by omega, by omega⟩ (mB_in (by omega) (by omega)).symm h42 (by fail) | exact WM_b ⟨by omega, by omega⟩ (by omega) (mB_in (by omega) (by omega)).symm h42 (by (have z_ := unhid u27_; omega)))) (by first | omega | (intro z; first | fail | exact WQ_0 (by fail) (by fail) | exact WM_a ⟨by fail, by fail⟩ (by fail) | exact WQ_s (q1 (by fail)) ⟨by fail, by fail⟩ (mB_in (by fail) (by fail)).symm h42 (by fail) | exact WM_b ⟨by fail, by fail⟩ (by fail) (mB_in (by fail) (by fail)).symm h42 (by fail))) (by omega)) ⟨.inl rfl, .inl rfl, .inl rfl, .inl rfl, trivial⟩
            · skip
              refine go_toq PM156 (k := 5) (pc' := 24) (L' := [some (.inr (.inr (some 79))), some (.inr (.inr (some 1011))), some (.inl 1), some (.inl (l24_3 + 1))]) (st' := []) (w' := (SH, dt)) rfl ?_
              exact GO.le (ih_loop37 1 (l24_3 + 1) (by first | omega | (intro z; first | fail | exact WQ_0 (by fail) (by fail) | exact WM_a ⟨by fail, by fail⟩ (by fail) | exact WQ_s (q1 (by fail)) ⟨by fail, by fail⟩ (mB_in (by fail) (by fail)).symm h42 (by fail) | exact WM_b ⟨by fail, by fail⟩ (by fail) (mB_in (by fail) (by fail)).symm h42 (by fail))) (by first | omega | (intro z; first | fail | exact WQ_0 (by fail) (by fail) | exact WM_a ⟨by fail, by fail⟩ (by fail) | exact WQ_s (q1 (by fail)) ⟨by fail, by fail⟩ (mB_in (by fail) (by fail)).symm h42 (by fail) | exact WM_b ⟨by fail, by fail⟩ (by fail) (mB_in (by fail) (by fail)).symm h42 (by fail))) (by first | fail | (intro z; first | fail | exact WQ_0 (by omega) (by fail) | exact WM_a ⟨by fail, by fail⟩ (by fail) | exact WQ_s (q1 (by (have z0_ := unhid i35; have z1_ := unhid i36; have z2_ := unhid c40; omega))) ⟨by omega, by omega⟩ (mB_in (by omega) (by omega)).symm h42 (by omega) | exact WM_b ⟨by fail, by fail⟩ (by fail) (mB_in (by fail) (by fail)).symm h42 (by fail))) (by first | omega | (intro z; first | fail | exact WQ_0 (by fail) (by fail) | exact WM_a ⟨by fail, by fail⟩ (by fail) | exact WQ_s (q1 (by fail)) ⟨by fail, by fail⟩ (mB_in (by fail) (by fail)).symm h42 (by fail) | exact WM_b ⟨by fail, by fail⟩ (by fail) (mB_in (by fail) (by fail)).symm h42 (by fail))) (by first | omega | (intro z; first | fail | exact WQ_0 (by fail) (by fail) | exact WM_a ⟨by fail, by fail⟩ (by fail) | exact WQ_s (q1 (by fail)) ⟨by fail, by fail⟩ (mB_in (by fail) (by fail)).symm h42 (by fail) | exact WM_b ⟨by fail, by fail⟩ (by fail) (mB_in (by fail) (by fail)).symm h42 (by fail))) (by omega)) ⟨.inl rfl, .inl rfl, .inl rfl, .inl rfl, trivial⟩
    exact GO.le (loop37 _ 1 0 (by first | omega | (intro z; first | fail | exact WQ_0 (by fail) (by fail) | exact WM_a ⟨by fail, by fail⟩ (by fail) | exact WQ_s (q1 (by fail)) ⟨by fail, by fail⟩ (mB_in (by fail) (by fail)).symm hI (by fail) | exact WM_b ⟨by fail, by fail⟩ (by fail) (mB_in (by fail) (by fail)).symm hI (by fail))) (by first | omega | (intro z; first | fail | exact WQ_0 (by fail) (by fail) | exact WM_a ⟨by fail, by fail⟩ (by fail) | exact WQ_s (q1 (by fail)) ⟨by fail, by fail⟩ (mB_in (by fail) (by fail)).symm hI (by fail) | exact WM_b ⟨by fail, by fail⟩ (by fail) (mB_in (by fail) (by fail)).symm hI (by fail))) (by first | fail | (intro z; first | fail | exact WQ_0 (by omega) (by omega) | exact WM_a ⟨by fail, by fail⟩ (by fail) | exact WQ_s (q1 (by fail)) ⟨by fail, by fail⟩ (mB_in (by fail) (by fail)).symm hI (by fail) | exact WM_b ⟨by fail, by fail⟩ (by fail) (mB_in (by fail) (by fail)).symm hI (by fail))) (by first | omega | (intro z; first | fail | exact WQ_0 (by fail) (by fail) | exact WM_a ⟨by fail, by fail⟩ (by fail) | exact WQ_s (q1 (by fail)) ⟨by fail, by fail⟩ (mB_in (by fail) (by fail)).symm hI (by fail) | exact WM_b ⟨by fail, by fail⟩ (by fail) (mB_in (by fail) (by fail)).symm hI (by fail))) (by first | omega | (intro z; first | fail | exact WQ_0 (by fail) (by fail) | exact WM_a ⟨by fail, by fail⟩ (by fail) | exact WQ_s (q1 (by fail)) ⟨by fail, by fail⟩ (mB_in (by fail) (by fail)).symm hI (by fail) | exact WM_b ⟨by fail, by fail⟩ (by fail) (mB_in (by fail) (by fail)).symm hI (by fail))) (Nat.lt_succ_self _)) ⟨.inl rfl, .inl rfl, .inl rfl, .inl rfl, trivial⟩
theorem sp_J1_charAt_3b067_12f (L : Nat) (xs : Nat → Int32) (sio : Option Nat) (d : Nat) (dt : Nat → Nat → Int) (hI : InvC dt)  (p2 : Int) (h_p2 : 0 ≤ p2 ∧ p2 ≤ 3)  : GO (am_XX L xs sio) (d + 2) 256 0 [some (.inr (.inr (some 2012))), some (.inl p2)] [] (SH, dt) (fun r w2 => w2 = (SH, dt) ∧ ((∃ v : Int, r = some (.inl v) ∧ (0 ≤ v ∧ v ≤ 65535) ∧ (v = (am_Sby.getD 12 []).getD p2.toNat 0)))) := by
  refine go_toq PM256 (k := 3) (pc' := 3) (L' := [some (.inr (.inr (some 2012))), some (.inl p2)]) (st' := [.inl 4, .inl p2]) (w' := (SH, dt)) rfl ?_
  refine go_callq PM256 PM255 (Q' := _) rfl rfl rfl rfl (sp_J0_checkIndex_df160 L xs sio (d + 0) dt hI  p2 (by first | exact h_p2 | exact bnd h_p2 (by decide) (by decide) | exact ⟨by fail, by fail⟩) 4 ⟨by decide, by decide⟩ (by first | exact True.intro | with_reducible assumption | rfl | omega | trivial)) ?_
  rintro _ _ ⟨rfl, h1⟩
  refine ⟨rfl, ?_⟩
  rcases h1 with ⟨rfl, h1⟩
  refine go_toq PM256 (k := 2) (pc' := 8) (L' := [some (.inr (.inr (some 2012))), some (.inl p2)]) (st' := [.inl p2, .inr (.inr (some 2012))]) (w' := (SH, dt)) rfl ?_
  have r2 := sby_R 12 (p2).toNat
  refine go_smpq PM256 (L' := [some (.inr (.inr (some 2012))), some (.inl p2)]) (st' := [.inl ((am_Sby.getD 12 []).getD (p2).toNat 0)]) (w' := (SH, dt)) rfl rfl (s_bald (n := 4) (f := fun q => (am_Sby.getD 12 []).getD q 0) rfl (by first | exact bndx h_p2 (by decide) (by decide) | exact ⟨by fail, by fail⟩)) ?_
  have r3 : 0 ≤ am_and ((am_Sby.getD 12 []).getD (p2).toNat 0) 255 ∧ am_and ((am_Sby.getD 12 []).getD (p2).toNat 0) 255 ≤ 255 := and_R255
  have r4 := i2c_R (am_and ((am_Sby.getD 12 []).getD (p2).toNat 0) 255)
  refine go_toq PM256 (k := 3) (pc' := 14) (L' := [some (.inr (.inr (some 2012))), some (.inl p2)]) (st' := [.inl (am_i2c (am_and ((am_Sby.getD 12 []).getD (p2).toNat 0) 255))]) (w' := (SH, dt)) rfl ?_
  refine go_retvq PM256 (v := am_i2c (am_and ((am_Sby.getD 12 []).getD (p2).toNat 0) 255)) rfl (decide_eq_true (show 0 ≤ am_i2c (am_and ((am_Sby.getD 12 []).getD (p2).toNat 0) 255) ∧ am_i2c (am_and ((am_Sby.getD 12 []).getD (p2).toNat 0) 255) < 65536 by omega)) ?_
  exact ⟨rfl, ⟨_, rfl, ⟨by omega, by omega⟩, by exact ic_id ⟨by omega, by omega⟩⟩⟩
theorem sp_J0_charAt_5068e_12f (L : Nat) (xs : Nat → Int32) (sio : Option Nat) (d : Nat) (dt : Nat → Nat → Int) (hI : InvC dt)  (p1 : Int) (h_p1 : 0 ≤ p1 ∧ p1 ≤ 3)  : GO (am_XX L xs sio) (d + 3) 250 0 [some (.inr (.inr (some 1012))), some (.inl p1)] [] (SH, dt) (fun r w2 => w2 = (SH, dt) ∧ ((∃ v : Int, r = some (.inl v) ∧ (0 ≤ v ∧ v ≤ 65535) ∧ (v = (am_Sby.getD 12 []).getD p1.toNat 0)))) := by
  refine go_toq PM250 (k := 1) (pc' := 1) (L' := [some (.inr (.inr (some 1012))), some (.inl p1)]) (st' := [.inr (.inr (some 1012))]) (w' := (SH, dt)) rfl ?_
  refine go_callq PM250 PM254 (Q' := _) rfl rfl rfl rfl (sp_J0_isLatin1_aae02_1012 L xs sio (d + 2) dt hI   ) ?_
  rintro _ _ ⟨rfl, h1⟩
  refine ⟨rfl, ?_⟩
  rcases h1 with ⟨rfl, h1⟩
  refine go_toq PM250 (k := 4) (pc' := 12) (L' := [some (.inr (.inr (some 1012))), some (.inl p1)]) (st' := [.inl p1, .inr (.inr (some 2012))]) (w' := (SH, dt)) rfl ?_
  refine go_callq PM250 PM256 (Q' := _) rfl rfl rfl rfl (sp_J1_charAt_3b067_12f L xs sio (d + 0) dt hI  p1 (by first | exact h_p1 | exact bnd h_p1 (by decide) (by decide) | exact ⟨by fail, by fail⟩) ) ?_
  rintro _ _ ⟨rfl, h2⟩
  refine ⟨rfl, ?_⟩
  rcases h2 with ⟨v_h2, rfl, h2r, h2⟩
  refine go_retvq PM250 (v := v_h2) rfl (decide_eq_true (show 0 ≤ v_h2 ∧ v_h2 < 65536 by omega)) ?_
  exact ⟨rfl, ⟨_, rfl, ⟨by omega, by omega⟩, by first | exact True.intro | with_reducible assumption | rfl | fail | trivial⟩⟩
set_option maxRecDepth 20000 in
theorem sp_X6_is_12f (L : Nat) (xs : Nat → Int32) (sio : Option Nat) (d : Nat) (dt : Nat → Nat → Int) (hI : InvC dt)   (h_p0 : dt 79 13 ≤ 500) (h_p1 : dt 79 15 ≤ dt 79 13) (h_p2 : dt 79 13 ≤ dt 79 12) : GO (am_XX L xs sio) (d + 4) 156 0 [some (.inr (.inr (some 79))), some (.inr (.inr (some 1012))), none, none] [] (SH, dt) (fun r w2 => w2 = (SH, dt) ∧ ((∃ v : Int, r = some (.inl v) ∧ (0 ≤ v ∧ v ≤ 1) ∧ (v = wm (am_Sby.getD 12 []) (mB (dt 85) (dt 79 12)) (dt 79 15).toNat (dt 79 13).toNat)))) := by
  have r1 : 0 ≤ dt 79 13 ∧ dt 79 13 ≤ 501 := InvC_get hI 79 13 rfl rfl
  have r2 : 0 ≤ dt 79 15 ∧ dt 79 15 ≤ 500 := InvC_get hI 79 15 rfl rfl
  have r3 : 0 ≤ dt 79 12 ∧ dt 79 12 ≤ 500 := InvC_get hI 79 12 rfl rfl
  have hlen : (((am_Sby.getD 12 []).length : Nat) : Int) = 4 := rfl
  refine go_toq PM156 (k := 6) (pc' := 10) (L' := [some (.inr (.inr (some 79))), some (.inr (.inr (some 1012))), none, none]) (st' := [.inr (.inr (some 1012)), .inl ((dt 79 13) - (dt 79 15))]) (w' := (SH, dt)) rfl ?_
  refine go_callq PM156 PM249 (Q' := _) rfl rfl rfl rfl (sp_J0_length_8abf5_1012 L xs sio (d + 2) dt hI   ) ?_
  rintro _ _ ⟨rfl, h4⟩
  refine ⟨rfl, ?_⟩
  rcases h4 with ⟨rfl, h4⟩
  refine go_ifq PM156 (k := 0) (p1 := 20) (p2 := 16) (L' := [some (.inr (.inr (some 79))), some (.inr (.inr (some 1012))), none, none]) (st' := []) (w' := (SH, dt)) rfl (c_ne (a := (dt 79 13) - (dt 79 15)) (b := 4) ⟨by omega, by omega⟩ ⟨by decide, by decide⟩) (fun c5 => ?_) (fun c5 => ?_)
  · skip
    replace c5 := hid c5
    refine go_toq PM156 (k := 4) (pc' := 24) (L' := [some (.inr (.inr (some 79))), some (.inr (.inr (some 1012))), some (.inl 0), some (.inl 0)]) (st' := []) (w' := (SH, dt)) rfl ?_
    have loop18 : ∀ (k_ : Nat) (l24_2 : Int) (l24_3 : Int) (i13 : 0 ≤ l24_2 ∧ l24_2 ≤ 1) (i14 : 0 ≤ l24_3 ∧ l24_3 ≤ 4) (i15 : l24_2 = 1 → WQ (am_Sby.getD 12 []) (dt 79 13 - dt 79 15) (mB (dt 85) (dt 79 12)) (dt 79 15) l24_3) (i16 : l24_2 = 0 → wm (am_Sby.getD 12 []) (mB (dt 85) (dt 79 12)) (dt 79 15).toNat (dt 79 13).toNat = 0) (i17 : l24_2 = 0 ∨ dt 79 13 - dt 79 15 = 4), (5 - l24_3).toNat < k_ → GO (am_XX L xs sio) (d + 4) 156 24 [some (.inr (.inr (some 79))), some (.inr (.inr (some 1012))), some (.inl l24_2), some (.inl l24_3)] [] (SH, dt) (fun r w2 => w2 = (SH, dt) ∧ ((∃ v : Int, r = some (.inl v) ∧ (0 ≤ v ∧ v ≤ 1) ∧ (v = wm (am_Sby.getD 12 []) (mB (dt 85) (dt 79 12)) (dt 79 15).toNat (dt 79 13).toNat)))) := by
      intro k_
      induction k_ with
      | zero => intro l24_2 l24_3 i13 i14 i15 i16 i17 hm; exact absurd hm (Nat.not_lt_zero _)
      | succ k_ ih_loop18 =>
        intro l24_2 l24_3 i13 i14 i15 i16 i17 hm
        replace i15 := hid i15
        replace i16 := hid i16
        replace i17 := hid i17
        have q1 := i15
        have q2 := i16
        refine go_toq PM156 (k := 2) (pc' := 26) (L' := [some (.inr (.inr (some 79))), some (.inr (.inr (some 1012))), some (.inl l24_2), some (.inl l24_3)]) (st' := [.inr (.inr (some 1012)), .inl l24_3]) (w' := (SH, dt)) rfl ?_
        refine go_callq PM156 PM249 (Q' := _) rfl rfl rfl rfl (sp_J0_length_8abf5_1012 L xs sio (d + 2) dt hI   ) ?_
        rintro _ _ ⟨rfl, h19⟩
        refine ⟨rfl, ?_⟩
        rcases h19 with ⟨rfl, h19⟩
        refine go_ifq PM156 (k := 0) (p1 := 67) (p2 := 32) (L' := [some (.inr (.inr (some 79))), some (.inr (.inr (some 1012))), some (.inl l24_2), some (.inl l24_3)]) (st' := []) (w' := (SH, dt)) rfl (c_ge (a := l24_3) (b := 4) (by first | exact bnd i14 (by decide) (by decide) | exact ⟨by fail, by fail⟩) ⟨by decide, by decide⟩) (fun c20 => ?_) (fun c20 => ?_)
        · skip
          refine go_toq PM156 (k := 1) (pc' := 68) (L' := [some (.inr (.inr (some 79))), some (.inr (.inr (some 1012))), some (.inl l24_2), some (.inl l24_3)]) (st' := [.inl l24_2]) (w' := (SH, dt)) rfl ?_
          refine go_retvq PM156 (v := l24_2) rfl (decide_eq_true (show l24_2 = 0 ∨ l24_2 = 1 by omega)) ?_
          exact ⟨rfl, ⟨_, rfl, ⟨by omega, by omega⟩, by rcases (show l24_2 = 0 ∨ l24_2 = 1 by omega) with z | z <;> first | (rw [q2 z]; exact z) | (rw [WM_1 (q1 z) ⟨by omega, by omega⟩ (by omega)]; exact z)⟩⟩
        · skip
          refine go_ifq PM156 (k := 1) (p1 := 67) (p2 := 36) (L' := [some (.inr (.inr (some 79))), some (.inr (.inr (some 1012))), some (.inl l24_2), some (.inl l24_3)]) (st' := []) (w' := (SH, dt)) rfl (z_eq (a := l24_2) (by first | exact bnd i13 (by decide) (by decide) | exact ⟨by fail, by fail⟩)) (fun c21 => ?_) (fun c21 => ?_)
          · skip
            refine go_toq PM156 (k := 1) (pc' := 68) (L' := [some (.inr (.inr (some 79))), some (.inr (.inr (some 1012))), some (.inl l24_2), some (.inl l24_3)]) (st' := [.inl l24_2]) (w' := (SH, dt)) rfl ?_
            refine go_retvq PM156 (v := l24_2) rfl (decide_eq_true (show l24_2 = 0 ∨ l24_2 = 1 by omega)) ?_
            exact ⟨rfl, ⟨_, rfl, ⟨by omega, by omega⟩, by rcases (show l24_2 = 0 ∨ l24_2 = 1 by omega) with z | z <;> first | (rw [q2 z]; exact z) | (rw [WM_1 (q1 z) ⟨by omega, by omega⟩ (by omega)]; exact z)⟩⟩
          · skip
            replace c21 := hid c21
            refine go_toq PM156 (k := 6) (pc' := 46) (L' := [some (.inr (.inr (some 79))), some (.inr (.inr (some 1012))), some (.inl l24_2), some (.inl l24_3)]) (st' := [.inl ((dt 79 15) + l24_3), .inr (.inr (some 85))]) (w' := (SH, dt)) rfl ?_
            have r22 : 0 ≤ dt 85 (((dt 79 15) + l24_3).toNat) ∧ dt 85 (((dt 79 15) + l24_3).toNat) ≤ 255 := InvC_get hI 85 (((dt 79 15) + l24_3).toNat) rfl rfl
            have u28_ := hid (And.intro (unhid c5) (And.intro (unhid i16) (And.intro (unhid i17) (unhid c21))))
            refine go_smpq PM156 (L' := [some (.inr (.inr (some 79))), some (.inr (.inr (some 1012))), some (.inl l24_2), some (.inl l24_3)]) (st' := [.inl (dt 85 (((dt 79 15) + l24_3).toNat))]) (w' := (SH, dt)) rfl rfl (s_iald (n := 500) (f := dt 85) rfl ⟨by omega, by (have z_ := unhid u28_; omega)⟩) ?_
            refine go_toq PM156 (k := 2) (pc' := 49) (L' := [some (.inr (.inr (some 79))), some (.inr (.inr (some 1012))), some (.inl l24_2), some (.inl l24_3)]) (st' := [.inl l24_3, .inr (.inr (some 1012)), .inl (dt 85 (((dt 79 15) + l24_3).toNat))]) (w' := (SH, dt)) rfl ?_
            refine go_callq PM156 PM250 (Q' := _) rfl rfl rfl rfl (sp_J0_charAt_5068e_12f L xs sio (d + 0) dt hI  l24_3 (by first | exact bnd i14 (by decide) (by decide) | exact bndd i14 c20 (by decide) (by decide) | exact ⟨by fail, by fail⟩) ) ?_
            rintro _ _ ⟨rfl, h23⟩
            refine ⟨rfl, ?_⟩
            rcases h23 with ⟨v_h23, rfl, h23r, h23⟩
            refine go_ifq PM156 (k := 0) (p1 := 59) (p2 := 55) (L' := [some (.inr (.inr (some 79))), some (.inr (.inr (some 1012))), some (.inl l24_2), some (.inl l24_3)]) (st' := []) (w' := (SH, dt)) rfl (c_ne (a := dt 85 (((dt 79 15) + l24_3).toNat)) (b := v_h23) (by first | exact bnd r22 (by decide) (by decide) | exact ⟨by fail, by fail⟩) (by first | exact bnd h23r (by decide) (by decide) | exact ⟨by fail, by fail⟩)) (fun c24 => ?_) (fun c24 => ?_)
            · skip
              replace c24 := hid c24
              refine go_toq PM156 (k := 4) (pc' := 24) (L' := [some (.inr (.inr (some 79))), some (.inr (.inr (some 1012))), some (.inl 0), some (.inl (l24_3 + 1))]) (st' := []) (w' := (SH, dt)) rfl ?_
              have u29_ := hid (And.intro (unhid c5) (And.intro (unhid i16) (And.intro (unhid i17) (And.intro (unhid c21) (unhid c24)))))
              exact GO.le (ih_loop18 0 (l24_3 + 1) (by first | omega | (intro z; first | fail | exact WQ_0 (by fail) (by fail) | exact WM_a ⟨by fail, by fail⟩ (by fail) | exact WQ_s (q1 (by fail)) ⟨by fail, by fail⟩ (mB_in (by fail) (by fail)).symm h23 (by fail) | exact WM_b ⟨by fail, by fail⟩ (by fail) (mB_in (by fail) (by fail)).symm h23 (by fail))) (by first | omega | (intro z; first | fail | exact WQ_0 (by fail) (by fail) | exact WM_a ⟨by fail, by fail⟩ (by fail) | exact WQ_s (q1 (by fail)) ⟨by fail, by fail⟩ (mB_in (by fail) (by fail)).symm h23 (by fail) | exact WM_b ⟨by fail, by fail⟩ (by fail) (mB_in (by fail) (by fail)).symm h23 (by fail))) (by first | omega | (intro z; first | fail | exact WQ_0 (by fail) (by fail) | exact WM_a ⟨by fail, by fail⟩ (by fail) | exact WQ_s (q1 (by fail)) ⟨by fail, by fail⟩ (mB_in (by fail) (by fail)).symm h23 (by fail) | exact WM_b ⟨by fail, by fail⟩ (by fail) (mB_in (by fail) (by fail)).symm h23 (by fail))) (by first | (have z_ := unhid u29_; omega) | (intro z; first | fail | exact WQ_0 (by fail) (by fail) | exact WM_a ⟨by fail, by fail⟩ (by fail) | exact WQ_s (q1 (by fail)) ⟨by fail, by fail⟩ (mB_in (by fail) (by fail)).symm h23 (by fail) | exact WM_b ⟨by fail, by fail⟩ (by fail) (mB_in (by fail) (by fail)).symm h23 (by fail))) (by first | omega | (intro z; first | fail | exact WQ_0 (by fail) (by fail) | exact WM_a ⟨by fail, by fail⟩ (by fail) | exact WQ_s (q1 (by fail)) ⟨by fail, by fail⟩ (mB_in (by fail) (by fail)).symm h23 (by fail) | exact WM_b ⟨by fail, by fail⟩ (by fail) (mB_in (by fail) (by fail)).symm h23 (by fail))) (by omega)) ⟨.inl rfl, .inl rfl, .inl rfl, .inl rfl, trivial⟩
            · skip
              refine go_toq PM156 (k := 5) (pc' := 24) (L' := [some (.inr (.inr (some 79))), some (.inr (.inr (some 1012))), some (.inl 1), some (.inl (l24_3 + 1))]) (st' := []) (w' := (SH, dt)) rfl ?_
              exact GO.le (ih_loop18 1 (l24_3 + 1) (by first | omega | (intro z; first | fail | exact WQ_0 (by fail) (by fail) | exact WM_a ⟨by fail, by fail⟩ (by fail) | exact WQ_s (q1 (by fail)) ⟨by fail, by fail⟩ (mB_in (by fail) (by fail)).symm h23 (by fail) | exact WM_b ⟨by fail, by fail⟩ (by fail) (mB_in (by fail) (by fail)).symm h23 (by fail))) (by first | omega | (intro z; first | fail | exact WQ_0 (by fail) (by fail) | exact WM_a ⟨by fail, by fail⟩ (by fail) | exact WQ_s (q1 (by fail)) ⟨by fail, by fail⟩ (mB_in (by fail) (by fail)).symm h23 (by fail) | exact WM_b ⟨by fail, by fail⟩ (by fail) (mB_in (by fail) (by fail)).symm h23 (by fail))) (by first | (have z_ := unhid u28_; omega) | (intro z; first | fail | exact WQ_0 (by fail) (by fail) | exact WM_a ⟨by fail, by fail⟩ (by fail) | exact WQ_s (q1 (by fail)) ⟨by fail, by fail⟩ (mB_in (by fail) (by fail)).symm h23 (by fail) | exact WM_b ⟨by fail, by fail⟩ (by fail) (mB_in (by fail) (by fail)).symm h23 (by fail))) (by first | omega | (intro z; first | fail | exact WQ_0 (by fail) (by fail) | exact WM_a ⟨by fail, by fail⟩ (by fail) | exact WQ_s (q1 (by fail)) ⟨by fail, by fail⟩ (mB_in (by fail) (by fail)).symm h23 (by fail) | exact WM_b ⟨by fail, by fail⟩ (by fail) (mB_in (by fail) (by fail)).symm h23 (by fail))) (by first | (have z_ := unhid u28_; omega) | (intro z; first | fail | exact WQ_0 (by fail) (by fail) | exact WM_a ⟨by fail, by fail⟩ (by fail) | exact WQ_s (q1 (by fail)) ⟨by fail, by fail⟩ (mB_in (by fail) (by fail)).symm h23 (by fail) | exact WM_b ⟨by fail, by fail⟩ (by fail) (mB_in (by fail) (by fail)).symm h23 (by fail))) (by omega)) ⟨.inl rfl, .inl rfl, .inl rfl, .inl rfl, trivial⟩
    exact GO.le (loop18 _ 0 0 (by first | omega | (intro z; first | fail | exact WQ_0 (by fail) (by fail) | exact WM_a ⟨by fail, by fail⟩ (by fail) | exact WQ_s (q1 (by fail)) ⟨by fail, by fail⟩ (mB_in (by fail) (by fail)).symm hI (by fail) | exact WM_b ⟨by fail, by fail⟩ (by fail) (mB_in (by fail) (by fail)).symm hI (by fail))) (by first | omega | (intro z; first | fail | exact WQ_0 (by fail) (by fail) | exact WM_a ⟨by fail, by fail⟩ (by fail) | exact WQ_s (q1 (by fail)) ⟨by fail, by fail⟩ (mB_in (by fail) (by fail)).symm hI (by fail) | exact WM_b ⟨by fail, by fail⟩ (by fail) (mB_in (by fail) (by fail)).symm hI (by fail))) (by first | omega | (intro z; first | fail | exact WQ_0 (by fail) (by fail) | exact WM_a ⟨by fail, by fail⟩ (by fail) | exact WQ_s (q1 (by fail)) ⟨by fail, by fail⟩ (mB_in (by fail) (by fail)).symm hI (by fail) | exact WM_b ⟨by fail, by fail⟩ (by fail) (mB_in (by fail) (by fail)).symm hI (by fail))) (by first | fail | (intro z; first | fail | exact WQ_0 (by fail) (by fail) | exact WM_a ⟨by omega, by omega⟩ (by (have z0_ := unhid c5; omega)) | exact WQ_s (q1 (by fail)) ⟨by fail, by fail⟩ (mB_in (by fail) (by fail)).symm hI (by fail) | exact WM_b ⟨by fail, by fail⟩ (by fail) (mB_in (by fail) (by fail)).symm hI (by fail))) (by first | omega | (intro z; first | fail | exact WQ_0 (by fail) (by fail) | exact WM_a ⟨by fail, by fail⟩ (by fail) | exact WQ_s (q1 (by fail)) ⟨by fail, by fail⟩ (mB_in (by fail) (by fail)).symm hI (by fail) | exact WM_b ⟨by fail, by fail⟩ (by fail) (mB_in (by fail) (by fail)).symm hI (by fail))) (Nat.lt_succ_self _)) ⟨.inl rfl, .inl rfl, .inl rfl, .inl rfl, trivial⟩
  · skip
    refine go_toq PM156 (k := 5) (pc' := 24) (L' := [some (.inr (.inr (some 79))), some (.inr (.inr (some 1012))), some (.inl 1), some (.inl 0)]) (st' := []) (w' := (SH, dt)) rfl ?_
    have loop37 : ∀ (k_ : Nat) (l24_2 : Int) (l24_3 : Int) (i32 : 0 ≤ l24_2 ∧ l24_2 ≤ 1) (i33 : 0 ≤ l24_3 ∧ l24_3 ≤ 4) (i34 : l24_2 = 1 → WQ (am_Sby.getD 12 []) (dt 79 13 - dt 79 15) (mB (dt 85) (dt 79 12)) (dt 79 15) l24_3) (i35 : l24_2 = 0 → wm (am_Sby.getD 12 []) (mB (dt 85) (dt 79 12)) (dt 79 15).toNat (dt 79 13).toNat = 0) (i36 : l24_2 = 0 ∨ dt 79 13 - dt 79 15 = 4), (5 - l24_3).toNat < k_ → GO (am_XX L xs sio) (d + 4) 156 24 [some (.inr (.inr (some 79))), some (.inr (.inr (some 1012))), some (.inl l24_2), some (.inl l24_3)] [] (SH, dt) (fun r w2 => w2 = (SH, dt) ∧ ((∃ v : Int, r = some (.inl v) ∧ (0 ≤ v ∧ v ≤ 1) ∧ (v = wm (am_Sby.getD 12 []) (mB (dt 85) (dt 79 12)) (dt 79 15).toNat (dt 79 13).toNat)))) := by
      intro k_
      induction k_ with
      | zero => intro l24_2 l24_3 i32 i33 i34 i35 i36 hm; exact absurd hm (Nat.not_lt_zero _)
      | succ k_ ih_loop37 =>
        intro l24_2 l24_3 i32 i33 i34 i35 i36 hm
        replace i34 := hid i34
        replace i35 := hid i35
        replace i36 := hid i36
        have q1 := i34
        have q2 := i35
        refine go_toq PM156 (k := 2) (pc' := 26) (L' := [some (.inr (.inr (some 79))), some (.inr (.inr (some 1012))), some (.inl l24_2), some (.inl l24_3)]) (st' := [.inr (.inr (some 1012)), .inl l24_3]) (w' := (SH, dt)) rfl ?_
        refine go_callq PM156 PM249 (Q' := _) rfl rfl rfl rfl (sp_J0_length_8abf5_1012 L xs sio (d + 2) dt hI   ) ?_
        rintro _ _ ⟨rfl, h38⟩
        refine ⟨rfl, ?_⟩
        rcases h38 with ⟨rfl, h38⟩
        refine go_ifq PM156 (k := 0) (p1 := 67) (p2 := 32) (L' := [some (.inr (.inr (some 79))), some (.inr (.inr (some 1012))), some (.inl l24_2), some (.inl l24_3)]) (st' := []) (w' := (SH, dt)) rfl (c_ge (a := l24_3) (b := 4) (by first | exact bnd i33 (by decide) (by decide) | exact ⟨by fail, by fail⟩) ⟨by decide, by decide⟩) (fun c39 => ?_) (fun c39 => ?_)
        · skip
          refine go_toq PM156 (k := 1) (pc' := 68) (L' := [some (.inr (.inr (some 79))), some (.inr (.inr (some 1012))), some (.inl l24_2), some (.inl l24_3)]) (st' := [.inl l24_2]) (w' := (SH, dt)) rfl ?_
          refine go_retvq PM156 (v := l24_2) rfl (decide_eq_true (show l24_2 = 0 ∨ l24_2 = 1 by omega)) ?_
          exact ⟨rfl, ⟨_, rfl, ⟨by omega, by omega⟩, by rcases (show l24_2 = 0 ∨ l24_2 = 1 by omega) with z | z <;> first | (rw [q2 z]; exact z) | (rw [WM_1 (q1 z) ⟨by omega, by omega⟩ (by omega)]; exact z)⟩⟩
        · skip
          refine go_ifq PM156 (k := 1) (p1 := 67) (p2 := 36) (L' := [some (.inr (.inr (some 79))), some (.inr (.inr (some 1012))), some (.inl l24_2), some (.inl l24_3)]) (st' := []) (w' := (SH, dt)) rfl (z_eq (a := l24_2) (by first | exact bnd i32 (by decide) (by decide) | exact ⟨by fail, by fail⟩)) (fun c40 => ?_) (fun c40 => ?_)
          · skip
            refine go_toq PM156 (k := 1) (pc' := 68) (L' := [some (.inr (.inr (some 79))), some (.inr (.inr (some 1012))), some (.inl l24_2), some (.inl l24_3)]) (st' := [.inl l24_2]) (w' := (SH, dt)) rfl ?_
            refine go_retvq PM156 (v := l24_2) rfl (decide_eq_true (show l24_2 = 0 ∨ l24_2 = 1 by omega)) ?_
            exact ⟨rfl, ⟨_, rfl, ⟨by omega, by omega⟩, by rcases (show l24_2 = 0 ∨ l24_2 = 1 by omega) with z | z <;> first | (rw [q2 z]; exact z) | (rw [WM_1 (q1 z) ⟨by omega, by omega⟩ (by omega)]; exact z)⟩⟩
          · skip
            replace c40 := hid c40
            refine go_toq PM156 (k := 6) (pc' := 46) (L' := [some (.inr (.inr (some 79))), some (.inr (.inr (some 1012))), some (.inl l24_2), some (.inl l24_3)]) (st' := [.inl ((dt 79 15) + l24_3), .inr (.inr (some 85))]) (w' := (SH, dt)) rfl ?_
            have r41 : 0 ≤ dt 85 (((dt 79 15) + l24_3).toNat) ∧ dt 85 (((dt 79 15) + l24_3).toNat) ≤ 255 := InvC_get hI 85 (((dt 79 15) + l24_3).toNat) rfl rfl
            refine go_smpq PM156 (L' := [some (.inr (.inr (some 79))), some (.inr (.inr (some 1012))), some (.inl l24_2), some (.inl l24_3)]) (st' := [.inl (dt 85 (((dt 79 15) + l24_3).toNat))]) (w' := (SH, dt)) rfl rfl (s_iald (n := 500) (f := dt 85) rfl ⟨by omega, by omega⟩) ?_
            refine go_toq PM156 (k := 2) (pc' := 49) (L' := [some (.inr (.inr (some 79))), some (.inr (.inr (some 1012))), some (.inl l24_2), some (.inl l24_3)]) (st' := [.inl l24_3, .inr (.inr (some 1012)), .inl (dt 85 (((dt 79 15) + l24_3).toNat))]) (w' := (SH, dt)) rfl ?_
            refine go_callq PM156 PM250 (Q' := _) rfl rfl rfl rfl (sp_J0_charAt_5068e_12f L xs sio (d + 0) dt hI  l24_3 (by first | exact bnd i33 (by decide) (by decide) | exact bndd i33 c39 (by decide) (by decide) | exact ⟨by fail, by fail⟩) ) ?_
            rintro _ _ ⟨rfl, h42⟩
            refine ⟨rfl, ?_⟩
            rcases h42 with ⟨v_h42, rfl, h42r, h42⟩
            refine go_ifq PM156 (k := 0) (p1 := 59) (p2 := 55) (L' := [some (.inr (.inr (some 79))), some (.inr (.inr (some 1012))), some (.inl l24_2), some (.inl l24_3)]) (st' := []) (w' := (SH, dt)) rfl (c_ne (a := dt 85 (((dt 79 15) + l24_3).toNat)) (b := v_h42) (by first | exact bnd r41 (by decide) (by decide) | exact ⟨by fail, by fail⟩) (by first | exact bnd h42r (by decide) (by decide) | exact ⟨by fail, by fail⟩)) (fun c43 => ?_) (fun c43 => ?_)
            · skip
              replace c43 := hid c43
              refine go_toq PM156 (k := 4) (pc' := 24) (L' := [some (.inr (.inr (some 79))), some (.inr (.inr (some 1012))), some (.inl 0), some (.inl (l24_3 + 1))]) (st' := []) (w' := (SH, dt)) rfl ?_
              have u30_ := hid (And.intro (unhid i35) (And.intro (unhid i36) (And.intro (unhid c40) (unhid c43))))
              exact GO.le (ih_loop37 0 (l24_3 + 1) (by first | omega | (intro z; first | fail | exact WQ_0 (by fail) (by fail) | exact WM_a ⟨by fail, by fail⟩ (by fail) | exact WQ_s (q1 (by fail)) ⟨by fail, by fail⟩ (mB_in (by fail) (by fail)).symm h42 (by fail) | exact WM_b ⟨by fail, by fail⟩ (by fail) (mB_in (by fail) (by fail)).symm h42 (by fail))) (by first | omega | (intro z; first | fail | exact WQ_0 (by fail) (by fail) | exact WM_a ⟨by fail, by fail⟩ (by fail) | exact WQ_s (q1 (by fail)) ⟨by fail, by fail⟩ (mB_in (by fail) (by fail)).symm h42 (by fail) | exact WM_b ⟨by fail, by fail⟩ (by fail) (mB_in (by fail) (by fail)).symm h42 (by fail))) (by first | omega | (intro z; first | fail | exact WQ_0 (by fail) (by fail) | exact WM_a ⟨by fail, by fail⟩ (by fail) | exact WQ_s (q1 (by fail)) ⟨by fail, by fail⟩ (mB_in (by fail) (by fail)).symm h42 (by fail) | exact WM_b ⟨by fail, by fail⟩ (by fail) (mB_in (by fail) (by fail)).symm h42 (by fail))) (by first | fail | (intro z; first | fail | exact WQ_0 (by fail) (by fail) | exact WM_a ⟨by omega, by omega⟩ (by fail) | exact WQ_s (q1 (by (have z_ := unhid u30_; omega))) ⟨by omega, by omega⟩ (mB_in (by omega) (by omega)).symm h42 (by fail) | exact WM_b ⟨by omega, by omega⟩ (by omega) (mB_in (by omega) (by omega)).symm h42 (by (have z_ := unhid u30_; omega)))) (by first | omega | (intro z; first | fail | exact WQ_0 (by fail) (by fail) | exact WM_a ⟨by fail, by fail⟩ (by fail) | exact WQ_s (q1 (by fail)) ⟨by fail, by fail⟩ (mB_in (by fail) (by fail)).symm h42 (by fail) | exact WM_b ⟨by fail, by fail⟩ (by fail) (mB_in (by fail) (by fail)).symm h42 (by fail))) (by omega)) ⟨.inl rfl, .inl rfl, .inl rfl, .inl rfl, trivial⟩
            · skip
              refine go_toq PM156 (k := 5) (pc' := 24) (L' := [some (.inr (.inr (some 79))), some (.inr (.inr (some 1012))), some (.inl 1), some (.inl (l24_3 + 1))]) (st' := []) (w' := (SH, dt)) rfl ?_
              exact GO.le (ih_loop37 1 (l24_3 + 1) (by first | omega | (intro z; first | fail | exact WQ_0 (by fail) (by fail) | exact WM_a ⟨by fail, by fail⟩ (by fail) | exact WQ_s (q1 (by fail)) ⟨by fail, by fail⟩ (mB_in (by fail) (by fail)).symm h42 (by fail) | exact WM_b ⟨by fail, by fail⟩ (by fail) (mB_in (by fail) (by fail)).symm h42 (by fail))) (by first | omega | (intro z; first | fail | exact WQ_0 (by fail) (by fail) | exact WM_a ⟨by fail, by fail⟩ (by fail) | exact WQ_s (q1 (by fail)) ⟨by fail, by fail⟩ (mB_in (by fail) (by fail)).symm h42 (by fail) | exact WM_b ⟨by fail, by fail⟩ (by fail) (mB_in (by fail) (by fail)).symm h42 (by fail))) (by first | fail | (intro z; first | fail | exact WQ_0 (by omega) (by fail) | exact WM_a ⟨by fail, by fail⟩ (by fail) | exact WQ_s (q1 (by (have z0_ := unhid i35; have z1_ := unhid i36; have z2_ := unhid c40; omega))) ⟨by omega, by omega⟩ (mB_in (by omega) (by omega)).symm h42 (by omega) | exact WM_b ⟨by fail, by fail⟩ (by fail) (mB_in (by fail) (by fail)).symm h42 (by fail))) (by first | omega | (intro z; first | fail | exact WQ_0 (by fail) (by fail) | exact WM_a ⟨by fail, by fail⟩ (by fail) | exact WQ_s (q1 (by fail)) ⟨by fail, by fail⟩ (mB_in (by fail) (by fail)).symm h42 (by fail) | exact WM_b ⟨by fail, by fail⟩ (by fail) (mB_in (by fail) (by fail)).symm h42 (by fail))) (by first | omega | (intro z; first | fail | exact WQ_0 (by fail) (by fail) | exact WM_a ⟨by fail, by fail⟩ (by fail) | exact WQ_s (q1 (by fail)) ⟨by fail, by fail⟩ (mB_in (by fail) (by fail)).symm h42 (by fail) | exact WM_b ⟨by fail, by fail⟩ (by fail) (mB_in (by fail) (by fail)).symm h42 (by fail))) (by omega)) ⟨.inl rfl, .inl rfl, .inl rfl, .inl rfl, trivial⟩
    exact GO.le (loop37 _ 1 0 (by first | omega | (intro z; first | fail | exact WQ_0 (by fail) (by fail) | exact WM_a ⟨by fail, by fail⟩ (by fail) | exact WQ_s (q1 (by fail)) ⟨by fail, by fail⟩ (mB_in (by fail) (by fail)).symm hI (by fail) | exact WM_b ⟨by fail, by fail⟩ (by fail) (mB_in (by fail) (by fail)).symm hI (by fail))) (by first | omega | (intro z; first | fail | exact WQ_0 (by fail) (by fail) | exact WM_a ⟨by fail, by fail⟩ (by fail) | exact WQ_s (q1 (by fail)) ⟨by fail, by fail⟩ (mB_in (by fail) (by fail)).symm hI (by fail) | exact WM_b ⟨by fail, by fail⟩ (by fail) (mB_in (by fail) (by fail)).symm hI (by fail))) (by first | fail | (intro z; first | fail | exact WQ_0 (by omega) (by omega) | exact WM_a ⟨by fail, by fail⟩ (by fail) | exact WQ_s (q1 (by fail)) ⟨by fail, by fail⟩ (mB_in (by fail) (by fail)).symm hI (by fail) | exact WM_b ⟨by fail, by fail⟩ (by fail) (mB_in (by fail) (by fail)).symm hI (by fail))) (by first | omega | (intro z; first | fail | exact WQ_0 (by fail) (by fail) | exact WM_a ⟨by fail, by fail⟩ (by fail) | exact WQ_s (q1 (by fail)) ⟨by fail, by fail⟩ (mB_in (by fail) (by fail)).symm hI (by fail) | exact WM_b ⟨by fail, by fail⟩ (by fail) (mB_in (by fail) (by fail)).symm hI (by fail))) (by first | omega | (intro z; first | fail | exact WQ_0 (by fail) (by fail) | exact WM_a ⟨by fail, by fail⟩ (by fail) | exact WQ_s (q1 (by fail)) ⟨by fail, by fail⟩ (mB_in (by fail) (by fail)).symm hI (by fail) | exact WM_b ⟨by fail, by fail⟩ (by fail) (mB_in (by fail) (by fail)).symm hI (by fail))) (Nat.lt_succ_self _)) ⟨.inl rfl, .inl rfl, .inl rfl, .inl rfl, trivial⟩
theorem sp_J1_charAt_3b067_13f (L : Nat) (xs : Nat → Int32) (sio : Option Nat) (d : Nat) (dt : Nat → Nat → Int) (hI : InvC dt)  (p2 : Int) (h_p2 : 0 ≤ p2 ∧ p2 ≤ 3)  : GO (am_XX L xs sio) (d + 2) 256 0 [some (.inr (.inr (some 2013))), some (.inl p2)] [] (SH, dt) (fun r w2 => w2 = (SH, dt) ∧ ((∃ v : Int, r = some (.inl v) ∧ (0 ≤ v ∧ v ≤ 65535) ∧ (v = (am_Sby.getD 13 []).getD p2.toNat 0)))) := by
  refine go_toq PM256 (k := 3) (pc' := 3) (L' := [some (.inr (.inr (some 2013))), some (.inl p2)]) (st' := [.inl 4, .inl p2]) (w' := (SH, dt)) rfl ?_
  refine go_callq PM256 PM255 (Q' := _) rfl rfl rfl rfl (sp_J0_checkIndex_df160 L xs sio (d + 0) dt hI  p2 (by first | exact h_p2 | exact bnd h_p2 (by decide) (by decide) | exact ⟨by fail, by fail⟩) 4 ⟨by decide, by decide⟩ (by first | exact True.intro | with_reducible assumption | rfl | omega | trivial)) ?_
  rintro _ _ ⟨rfl, h1⟩
  refine ⟨rfl, ?_⟩
  rcases h1 with ⟨rfl, h1⟩
  refine go_toq PM256 (k := 2) (pc' := 8) (L' := [some (.inr (.inr (some 2013))), some (.inl p2)]) (st' := [.inl p2, .inr (.inr (some 2013))]) (w' := (SH, dt)) rfl ?_
  have r2 := sby_R 13 (p2).toNat
  refine go_smpq PM256 (L' := [some (.inr (.inr (some 2013))), some (.inl p2)]) (st' := [.inl ((am_Sby.getD 13 []).getD (p2).toNat 0)]) (w' := (SH, dt)) rfl rfl (s_bald (n := 4) (f := fun q => (am_Sby.getD 13 []).getD q 0) rfl (by first | exact bndx h_p2 (by decide) (by decide) | exact ⟨by fail, by fail⟩)) ?_
  have r3 : 0 ≤ am_and ((am_Sby.getD 13 []).getD (p2).toNat 0) 255 ∧ am_and ((am_Sby.getD 13 []).getD (p2).toNat 0) 255 ≤ 255 := and_R255
  have r4 := i2c_R (am_and ((am_Sby.getD 13 []).getD (p2).toNat 0) 255)
  refine go_toq PM256 (k := 3) (pc' := 14) (L' := [some (.inr (.inr (some 2013))), some (.inl p2)]) (st' := [.inl (am_i2c (am_and ((am_Sby.getD 13 []).getD (p2).toNat 0) 255))]) (w' := (SH, dt)) rfl ?_
  refine go_retvq PM256 (v := am_i2c (am_and ((am_Sby.getD 13 []).getD (p2).toNat 0) 255)) rfl (decide_eq_true (show 0 ≤ am_i2c (am_and ((am_Sby.getD 13 []).getD (p2).toNat 0) 255) ∧ am_i2c (am_and ((am_Sby.getD 13 []).getD (p2).toNat 0) 255) < 65536 by omega)) ?_
  exact ⟨rfl, ⟨_, rfl, ⟨by omega, by omega⟩, by exact ic_id ⟨by omega, by omega⟩⟩⟩
theorem sp_J0_charAt_5068e_13f (L : Nat) (xs : Nat → Int32) (sio : Option Nat) (d : Nat) (dt : Nat → Nat → Int) (hI : InvC dt)  (p1 : Int) (h_p1 : 0 ≤ p1 ∧ p1 ≤ 3)  : GO (am_XX L xs sio) (d + 3) 250 0 [some (.inr (.inr (some 1013))), some (.inl p1)] [] (SH, dt) (fun r w2 => w2 = (SH, dt) ∧ ((∃ v : Int, r = some (.inl v) ∧ (0 ≤ v ∧ v ≤ 65535) ∧ (v = (am_Sby.getD 13 []).getD p1.toNat 0)))) := by
  refine go_toq PM250 (k := 1) (pc' := 1) (L' := [some (.inr (.inr (some 1013))), some (.inl p1)]) (st' := [.inr (.inr (some 1013))]) (w' := (SH, dt)) rfl ?_
  refine go_callq PM250 PM254 (Q' := _) rfl rfl rfl rfl (sp_J0_isLatin1_aae02_1013 L xs sio (d + 2) dt hI   ) ?_
  rintro _ _ ⟨rfl, h1⟩
  refine ⟨rfl, ?_⟩
  rcases h1 with ⟨rfl, h1⟩
  refine go_toq PM250 (k := 4) (pc' := 12) (L' := [some (.inr (.inr (some 1013))), some (.inl p1)]) (st' := [.inl p1, .inr (.inr (some 2013))]) (w' := (SH, dt)) rfl ?_
  refine go_callq PM250 PM256 (Q' := _) rfl rfl rfl rfl (sp_J1_charAt_3b067_13f L xs sio (d + 0) dt hI  p1 (by first | exact h_p1 | exact bnd h_p1 (by decide) (by decide) | exact ⟨by fail, by fail⟩) ) ?_
  rintro _ _ ⟨rfl, h2⟩
  refine ⟨rfl, ?_⟩
  rcases h2 with ⟨v_h2, rfl, h2r, h2⟩
  refine go_retvq PM250 (v := v_h2) rfl (decide_eq_true (show 0 ≤ v_h2 ∧ v_h2 < 65536 by omega)) ?_
  exact ⟨rfl, ⟨_, rfl, ⟨by omega, by omega⟩, by first | exact True.intro | with_reducible assumption | rfl | fail | trivial⟩⟩
set_option maxRecDepth 20000 in
theorem sp_X6_is_13f (L : Nat) (xs : Nat → Int32) (sio : Option Nat) (d : Nat) (dt : Nat → Nat → Int) (hI : InvC dt)   (h_p0 : dt 79 13 ≤ 500) (h_p1 : dt 79 15 ≤ dt 79 13) (h_p2 : dt 79 13 ≤ dt 79 12) : GO (am_XX L xs sio) (d + 4) 156 0 [some (.inr (.inr (some 79))), some (.inr (.inr (some 1013))), none, none] [] (SH, dt) (fun r w2 => w2 = (SH, dt) ∧ ((∃ v : Int, r = some (.inl v) ∧ (0 ≤ v ∧ v ≤ 1) ∧ (v = wm (am_Sby.getD 13 []) (mB (dt 85) (dt 79 12)) (dt 79 15).toNat (dt 79 13).toNat)))) := by
  have r1 : 0 ≤ dt 79 13 ∧ dt 79 13 ≤ 501 := InvC_get hI 79 13 rfl rfl
  have r2 : 0 ≤ dt 79 15 ∧ dt 79 15 ≤ 500 := InvC_get hI 79 15 rfl rfl
  have r3 : 0 ≤ dt 79 12 ∧ dt 79 12 ≤ 500 := InvC_get hI 79 12 rfl rfl
  have hlen : (((am_Sby.getD 13 []).length : Nat) : Int) = 4 := rfl
  refine go_toq PM156 (k := 6) (pc' := 10) (L' := [some (.inr (.inr (some 79))), some (.inr (.inr (some 1013))), none, none]) (st' := [.inr (.inr (some 1013)), .inl ((dt 79 13) - (dt 79 15))]) (w' := (SH, dt)) rfl ?_
  refine go_callq PM156 PM249 (Q' := _) rfl rfl rfl rfl (sp_J0_length_8abf5_1013 L xs sio (d + 2) dt hI   ) ?_
  rintro _ _ ⟨rfl, h4⟩
  refine ⟨rfl, ?_⟩
  rcases h4 with ⟨rfl, h4⟩
  refine go_ifq PM156 (k := 0) (p1 := 20) (p2 := 16) (L' := [some (.inr (.inr (some 79))), some (.inr (.inr (some 1013))), none, none]) (st' := []) (w' := (SH, dt)) rfl (c_ne (a := (dt 79 13) - (dt 79 15)) (b := 4) ⟨by omega, by omega⟩ ⟨by decide, by decide⟩) (fun c5 => ?_) (fun c5 => ?_)
  · skip
    replace c5 := hid c5
    refine go_toq PM156 (k := 4) (pc' := 24) (L' := [some (.inr (.inr (some 79))), some (.inr (.inr (some 1013))), some (.inl 0), some (.inl 0)]) (st' := []) (w' := (SH, dt)) rfl ?_
    have loop18 : ∀ (k_ : Nat) (l24_2 : Int) (l24_3 : Int) (i13 : 0 ≤ l24_2 ∧ l24_2 ≤ 1) (i14 : 0 ≤ l24_3 ∧ l24_3 ≤ 4) (i15 : l24_2 = 1 → WQ (am_Sby.getD 13 []) (dt 79 13 - dt 79 15) (mB (dt 85) (dt 79 12)) (dt 79 15) l24_3) (i16 : l24_2 = 0 → wm (am_Sby.getD 13 []) (mB (dt 85) (dt 79 12)) (dt 79 15).toNat (dt 79 13).toNat = 0) (i17 : l24_2 = 0 ∨ dt 79 13 - dt 79 15 = 4), (5 - l24_3).toNat < k_ → GO (am_XX L xs sio) (d + 4) 156 24 [some (.inr (.inr (some 79))), some (.inr (.inr (some 1013))), some (.inl l24_2), some (.inl l24_3)] [] (SH, dt) (fun r w2 => w2 = (SH, dt) ∧ ((∃ v : Int, r = some (.inl v) ∧ (0 ≤ v ∧ v ≤ 1) ∧ (v = wm (am_Sby.getD 13 []) (mB (dt 85) (dt 79 12)) (dt 79 15).toNat (dt 79 13).toNat)))) := by
      intro k_
      induction k_ with
      | zero => intro l24_2 l24_3 i13 i14 i15 i16 i17 hm; exact absurd hm (Nat.not_lt_zero _)
      | succ k_ ih_loop18 =>
        intro l24_2 l24_3 i13 i14 i15 i16 i17 hm
        replace i15 := hid i15
        replace i16 := hid i16
        replace i17 := hid i17
        have q1 := i15
        have q2 := i16
        refine go_toq PM156 (k := 2) (pc' := 26) (L' := [some (.inr (.inr (some 79))), some (.inr (.inr (some 1013))), some (.inl l24_2), some (.inl l24_3)]) (st' := [.inr (.inr (some 1013)), .inl l24_3]) (w' := (SH, dt)) rfl ?_
        refine go_callq PM156 PM249 (Q' := _) rfl rfl rfl rfl (sp_J0_length_8abf5_1013 L xs sio (d + 2) dt hI   ) ?_
        rintro _ _ ⟨rfl, h19⟩
        refine ⟨rfl, ?_⟩
        rcases h19 with ⟨rfl, h19⟩
        refine go_ifq PM156 (k := 0) (p1 := 67) (p2 := 32) (L' := [some (.inr (.inr (some 79))), some (.inr (.inr (some 1013))), some (.inl l24_2), some (.inl l24_3)]) (st' := []) (w' := (SH, dt)) rfl (c_ge (a := l24_3) (b := 4) (by first | exact bnd i14 (by decide) (by decide) | exact ⟨by fail, by fail⟩) ⟨by decide, by decide⟩) (fun c20 => ?_) (fun c20 => ?_)
        · skip
          refine go_toq PM156 (k := 1) (pc' := 68) (L' := [some (.inr (.inr (some 79))), some (.inr (.inr (some 1013))), some (.inl l24_2), some (.inl l24_3)]) (st' := [.inl l24_2]) (w' := (SH, dt)) rfl ?_
          refine go_retvq PM156 (v := l24_2) rfl (decide_eq_true (show l24_2 = 0 ∨ l24_2 = 1 by omega)) ?_
          exact ⟨rfl, ⟨_, rfl, ⟨by omega, by omega⟩, by rcases (show l24_2 = 0 ∨ l24_2 = 1 by omega) with z | z <;> first | (rw [q2 z]; exact z) | (rw [WM_1 (q1 z) ⟨by omega, by omega⟩ (by omega)]; exact z)⟩⟩
        · skip
          refine go_ifq PM156 (k := 1) (p1 := 67) (p2 := 36) (L' := [some (.inr (.inr (some 79))), some (.inr (.inr (some 1013))), some (.inl l24_2), some (.inl l24_3)]) (st' := []) (w' := (SH, dt)) rfl (z_eq (a := l24_2) (by first | exact bnd i13 (by decide) (by decide) | exact ⟨by fail, by fail⟩)) (fun c21 => ?_) (fun c21 => ?_)
          · skip
            refine go_toq PM156 (k := 1) (pc' := 68) (L' := [some (.inr (.inr (some 79))), some (.inr (.inr (some 1013))), some (.inl l24_2), some (.inl l24_3)]) (st' := [.inl l24_2]) (w' := (SH, dt)) rfl ?_
            refine go_retvq PM156 (v := l24_2) rfl (decide_eq_true (show l24_2 = 0 ∨ l24_2 = 1 by omega)) ?_
            exact ⟨rfl, ⟨_, rfl, ⟨by omega, by omega⟩, by rcases (show l24_2 = 0 ∨ l24_2 = 1 by omega) with z | z <;> first | (rw [q2 z]; exact z) | (rw [WM_1 (q1 z) ⟨by omega, by omega⟩ (by omega)]; exact z)⟩⟩
          · skip
            replace c21 := hid c21
            refine go_toq PM156 (k := 6) (pc' := 46) (L' := [some (.inr (.inr (some 79))), some (.inr (.inr (some 1013))), some (.inl l24_2), some (.inl l24_3)]) (st' := [.inl ((dt 79 15) + l24_3), .inr (.inr (some 85))]) (w' := (SH, dt)) rfl ?_
            have r22 : 0 ≤ dt 85 (((dt 79 15) + l24_3).toNat) ∧ dt 85 (((dt 79 15) + l24_3).toNat) ≤ 255 := InvC_get hI 85 (((dt 79 15) + l24_3).toNat) rfl rfl
            have u31_ := hid (And.intro (unhid c5) (And.intro (unhid i16) (And.intro (unhid i17) (unhid c21))))
            refine go_smpq PM156 (L' := [some (.inr (.inr (some 79))), some (.inr (.inr (some 1013))), some (.inl l24_2), some (.inl l24_3)]) (st' := [.inl (dt 85 (((dt 79 15) + l24_3).toNat))]) (w' := (SH, dt)) rfl rfl (s_iald (n := 500) (f := dt 85) rfl ⟨by omega, by (have z_ := unhid u31_; omega)⟩) ?_
            refine go_toq PM156 (k := 2) (pc' := 49) (L' := [some (.inr (.inr (some 79))), some (.inr (.inr (some 1013))), some (.inl l24_2), some (.inl l24_3)]) (st' := [.inl l24_3, .inr (.inr (some 1013)), .inl (dt 85 (((dt 79 15) + l24_3).toNat))]) (w' := (SH, dt)) rfl ?_
            refine go_callq PM156 PM250 (Q' := _) rfl rfl rfl rfl (sp_J0_charAt_5068e_13f L xs sio (d + 0) dt hI  l24_3 (by first | exact bnd i14 (by decide) (by decide) | exact bndd i14 c20 (by decide) (by decide) | exact ⟨by fail, by fail⟩) ) ?_
            rintro _ _ ⟨rfl, h23⟩
            refine ⟨rfl, ?_⟩
            rcases h23 with ⟨v_h23, rfl, h23r, h23⟩
            refine go_ifq PM156 (k := 0) (p1 := 59) (p2 := 55) (L' := [some (.inr (.inr (some 79))), some (.inr (.inr (some 1013))), some (.inl l24_2), some (.inl l24_3)]) (st' := []) (w' := (SH, dt)) rfl (c_ne (a := dt 85 (((dt 79 15) + l24_3).toNat)) (b := v_h23) (by first | exact bnd r22 (by decide) (by decide) | exact ⟨by fail, by fail⟩) (by first | exact bnd h23r (by decide) (by decide) | exact ⟨by fail, by fail⟩)) (fun c24 => ?_) (fun c24 => ?_)
            · skip
              replace c24 := hid c24
              refine go_toq PM156 (k := 4) (pc' := 24) (L' := [some (.inr (.inr (some 79))), some (.inr (.inr (some 1013))), some (.inl 0), some (.inl (l24_3 + 1))]) (st' := []) (w' := (SH, dt)) rfl ?_
              have u32_ := hid (And.intro (unhid c5) (And.intro (unhid i16) (And.intro (unhid i17) (And.intro (unhid c21) (unhid c24)))))
              exact GO.le (ih_loop18 0 (l24_3 + 1) (by first | omega | (intro z; first | fail | exact WQ_0 (by fail) (by fail) | exact WM_a ⟨by fail, by fail⟩ (by fail) | exact WQ_s (q1 (by fail)) ⟨by fail, by fail⟩ (mB_in (by fail) (by fail)).symm h23 (by fail) | exact WM_b ⟨by fail, by fail⟩ (by fail) (mB_in (by fail) (by fail)).symm h23 (by fail))) (by first | omega | (intro z; first | fail | exact WQ_0 (by fail) (by fail) | exact WM_a ⟨by fail, by fail⟩ (by fail) | exact WQ_s (q1 (by fail)) ⟨by fail, by fail⟩ (mB_in (by fail) (by fail)).symm h23 (by fail) | exact WM_b ⟨by fail, by fail⟩ (by fail) (mB_in (by fail) (by fail)).symm h23 (by fail))) (by first | omega | (intro z; first | fail | exact WQ_0 (by fail) (by fail) | exact WM_a ⟨by fail, by fail⟩ (by fail) | exact WQ_s (q1 (by fail)) ⟨by fail, by fail⟩ (mB_in (by fail) (by fail)).symm h23 (by fail) | exact WM_b ⟨by fail, by fail⟩ (by fail) (mB_in (by fail) (by fail)).symm h23 (by fail))) (by first | (have z_ := unhid u32_; omega) | (intro z; first | fail | exact WQ_0 (by fail) (by fail) | exact WM_a ⟨by fail, by fail⟩ (by fail) | exact WQ_s (q1 (by fail)) ⟨by fail, by fail⟩ (mB_in (by fail) (by fail)).symm h23 (by fail) | exact WM_b ⟨by fail, by fail⟩ (by fail) (mB_in (by fail) (by fail)).symm h23 (by fail))) (by first | omega | (intro z; first | fail | exact WQ_0 (by fail) (by fail) | exact WM_a ⟨by fail, by fail⟩ (by fail) | exact WQ_s (q1 (by fail)) ⟨by fail, by fail⟩ (mB_in (by fail) (by fail)).symm h23 (by fail) | exact WM_b ⟨by fail, by fail⟩ (by fail) (mB_in (by fail) (by fail)).symm h23 (by fail))) (by omega)) ⟨.inl rfl, .inl rfl, .inl rfl, .inl rfl, trivial⟩
            · skip
              refine go_toq PM156 (k := 5) (pc' := 24) (L' := [some (.inr (.inr (some 79))), some (.inr (.inr (some 1013))), some (.inl 1), some (.inl (l24_3 + 1))]) (st' := []) (w' := (SH, dt)) rfl ?_
              exact GO.le (ih_loop18 1 (l24_3 + 1) (by first | omega | (intro z; first | fail | exact WQ_0 (by fail) (by fail) | exact WM_a ⟨by fail, by fail⟩ (by fail) | exact WQ_s (q1 (by fail)) ⟨by fail, by fail⟩ (mB_in (by fail) (by fail)).symm h23 (by fail) | exact WM_b ⟨by fail, by fail⟩ (by fail) (mB_in (by fail) (by fail)).symm h23 (by fail))) (by first | omega | (intro z; first | fail | exact WQ_0 (by fail) (by fail) | exact WM_a ⟨by fail, by fail⟩ (by fail) | exact WQ_s (q1 (by fail)) ⟨by fail, by fail⟩ (mB_in (by fail) (by fail)).symm h23 (by fail) | exact WM_b ⟨by fail, by fail⟩ (by fail) (mB_in (by fail) (by fail)).symm h23 (by fail))) (by first | (have z_ := unhid u31_; omega) | (intro z; first | fail | exact WQ_0 (by fail) (by fail) | exact WM_a ⟨by fail, by fail⟩ (by fail) | exact WQ_s (q1 (by fail)) ⟨by fail, by fail⟩ (mB_in (by fail) (by fail)).symm h23 (by fail) | exact WM_b ⟨by fail, by fail⟩ (by fail) (mB_in (by fail) (by fail)).symm h23 (by fail))) (by first | omega | (intro z; first | fail | exact WQ_0 (by fail) (by fail) | exact WM_a ⟨by fail, by fail⟩ (by fail) | exact WQ_s (q1 (by fail)) ⟨by fail, by fail⟩ (mB_in (by fail) (by fail)).symm h23 (by fail) | exact WM_b ⟨by fail, by fail⟩ (by fail) (mB_in (by fail) (by fail)).symm h23 (by fail))) (by first | (have z_ := unhid u31_; omega) | (intro z; first | fail | exact WQ_0 (by fail) (by fail) | exact WM_a ⟨by fail, by fail⟩ (by fail) | exact WQ_s (q1 (by fail)) ⟨by fail, by fail⟩ (mB_in (by fail) (by fail)).symm h23 (by fail) | exact WM_b ⟨by fail, by fail⟩ (by fail) (mB_in (by fail) (by fail)).symm h23 (by fail))) (by omega)) ⟨.inl rfl, .inl rfl, .inl rfl, .inl rfl, trivial⟩
    exact GO.le (loop18 _ 0 0 (by first | omega | (intro z; first | fail | exact WQ_0 (by fail) (by fail) | exact WM_a ⟨by fail, by fail⟩ (by fail) | exact WQ_s (q1 (by fail)) ⟨by fail, by fail⟩ (mB_in (by fail) (by fail)).symm hI (by fail) | exact WM_b ⟨by fail, by fail⟩ (by fail) (mB_in (by fail) (by fail)).symm hI (by fail))) (by first | omega | (intro z; first | fail | exact WQ_0 (by fail) (by fail) | exact WM_a ⟨by fail, by fail⟩ (by fail) | exact WQ_s (q1 (by fail)) ⟨by fail, by fail⟩ (mB_in (by fail) (by fail)).symm hI (by fail) | exact WM_b ⟨by fail, by fail⟩ (by fail) (mB_in (by fail) (by fail)).symm hI (by fail))) (by first | omega | (intro z; first | fail | exact WQ_0 (by fail) (by fail) | exact WM_a ⟨by fail, by fail⟩ (by fail) | exact WQ_s (q1 (by fail)) ⟨by fail, by fail⟩ (mB_in (by fail) (by fail)).symm hI (by fail) | exact WM_b ⟨by fail, by fail⟩ (by fail) (mB_in (by fail) (by fail)).symm hI (by fail))) (by first | fail | (intro z; first | fail | exact WQ_0 (by fail) (by fail) | exact WM_a ⟨by omega, by omega⟩ (by (have z0_ := unhid c5; omega)) | exact WQ_s (q1 (by fail)) ⟨by fail, by fail⟩ (mB_in (by fail) (by fail)).symm hI (by fail) | exact WM_b ⟨by fail, by fail⟩ (by fail) (mB_in (by fail) (by fail)).symm hI (by fail))) (by first | omega | (intro z; first | fail | exact WQ_0 (by fail) (by fail) | exact WM_a ⟨by fail, by fail⟩ (by fail) | exact WQ_s (q1 (by fail)) ⟨by fail, by fail⟩ (mB_in (by fail) (by fail)).symm hI (by fail) | exact WM_b ⟨by fail, by fail⟩ (by fail) (mB_in (by fail) (by fail)).symm hI (by fail))) (Nat.lt_succ_self _)) ⟨.inl rfl, .inl rfl, .inl rfl, .inl rfl, trivial⟩
  · skip
    refine go_toq PM156 (k := 5) (pc' := 24) (L' := [some (.inr (.inr (some 79))), some (.inr (.inr (some 1013))), some (.inl 1), some (.inl 0)]) (st' := []) (w' := (SH, dt)) rfl ?_
    have loop37 : ∀ (k_ : Nat) (l24_2 : Int) (l24_3 : Int) (i32 : 0 ≤ l24_2 ∧ l24_2 ≤ 1) (i33 : 0 ≤ l24_3 ∧ l24_3 ≤ 4) (i34 : l24_2 = 1 → WQ (am_Sby.getD 13 []) (dt 79 13 - dt 79 15) (mB (dt 85) (dt 79 12)) (dt 79 15) l24_3) (i35 : l24_2 = 0 → wm (am_Sby.getD 13 []) (mB (dt 85) (dt 79 12)) (dt 79 15).toNat (dt 79 13).toNat = 0) (i36 : l24_2 = 0 ∨ dt 79 13 - dt 79 15 = 4), (5 - l24_3).toNat < k_ → GO (am_XX L xs sio) (d + 4) 156 24 [some (.inr (.inr (some 79))), some (.inr (.inr (some 1013))), some (.inl l24_2), some (.inl l24_3)] [] (SH, dt) (fun r w2 => w2 = (SH, dt) ∧ ((∃ v : Int, r = some (.inl v) ∧ (0 ≤ v ∧ v ≤ 1) ∧ (v = wm (am_Sby.getD 13 []) (mB (dt 85) (dt 79 12)) (dt 79 15).toNat (dt 79 13).toNat)))) := by
      intro k_
      induction k_ with
      | zero => intro l24_2 l24_3 i32 i33 i34 i35 i36 hm; exact absurd hm (Nat.not_lt_zero _)
      | succ k_ ih_loop37 =>
        intro l24_2 l24_3 i32 i33 i34 i35 i36 hm
        replace i34 := hid i34
        replace i35 := hid i35
        replace i36 := hid i36
        have q1 := i34
        have q2 := i35
        refine go_toq PM156 (k := 2) (pc' := 26) (L' := [some (.inr (.inr (some 79))), some (.inr (.inr (some 1013))), some (.inl l24_2), some (.inl l24_3)]) (st' := [.inr (.inr (some 1013)), .inl l24_3]) (w' := (SH, dt)) rfl ?_
        refine go_callq PM156 PM249 (Q' := _) rfl rfl rfl rfl (sp_J0_length_8abf5_1013 L xs sio (d + 2) dt hI   ) ?_
        rintro _ _ ⟨rfl, h38⟩
        refine ⟨rfl, ?_⟩
        rcases h38 with ⟨rfl, h38⟩
        refine go_ifq PM156 (k := 0) (p1 := 67) (p2 := 32) (L' := [some (.inr (.inr (some 79))), some (.inr (.inr (some 1013))), some (.inl l24_2), some (.inl l24_3)]) (st' := []) (w' := (SH, dt)) rfl (c_ge (a := l24_3) (b := 4) (by first | exact bnd i33 (by decide) (by decide) | exact ⟨by fail, by fail⟩) ⟨by decide, by decide⟩) (fun c39 => ?_) (fun c39 => ?_)
        · skip
          refine go_toq PM156 (k := 1) (pc' := 68) (L' := [some (.inr (.inr (some 79))), some (.inr (.inr (some 1013))), some (.inl l24_2), some (.inl l24_3)]) (st' := [.inl l24_2]) (w' := (SH, dt)) rfl ?_
          refine go_retvq PM156 (v := l24_2) rfl (decide_eq_true (show l24_2 = 0 ∨ l24_2 = 1 by omega)) ?_
          exact ⟨rfl, ⟨_, rfl, ⟨by omega, by omega⟩, by rcases (show l24_2 = 0 ∨ l24_2 = 1 by omega) with z | z <;> first | (rw [q2 z]; exact z) | (rw [WM_1 (q1 z) ⟨by omega, by omega⟩ (by omega)]; exact z)⟩⟩
        · skip
          refine go_ifq PM156 (k := 1) (p1 := 67) (p2 := 36) (L' := [some (.inr (.inr (some 79))), some (.inr (.inr (some 1013))), some (.inl l24_2), some (.inl l24_3)]) (st' := []) (w' := (SH, dt)) rfl (z_eq (a := l24_2) (by first | exact bnd i32 (by decide) (by decide) | exact ⟨by fail, by fail⟩)) (fun c40 => ?_) (fun c40 => ?_)
          · skip
            refine go_toq PM156 (k := 1) (pc' := 68) (L' := [some (.inr (.inr (some 79))), some (.inr (.inr (some 1013))), some (.inl l24_2), some (.inl l24_3)]) (st' := [.inl l24_2]) (w' := (SH, dt)) rfl ?_
            refine go_retvq PM156 (v := l24_2) rfl (decide_eq_true (show l24_2 = 0 ∨ l24_2 = 1 by omega)) ?_
            exact ⟨rfl, ⟨_, rfl, ⟨by omega, by omega⟩, by rcases (show l24_2 = 0 ∨ l24_2 = 1 by omega) with z | z <;> first | (rw [q2 z]; exact z) | (rw [WM_1 (q1 z) ⟨by omega, by omega⟩ (by omega)]; exact z)⟩⟩
          · skip
            replace c40 := hid c40
            refine go_toq PM156 (k := 6) (pc' := 46) (L' := [some (.inr (.inr (some 79))), some (.inr (.inr (some 1013))), some (.inl l24_2), some (.inl l24_3)]) (st' := [.inl ((dt 79 15) + l24_3), .inr (.inr (some 85))]) (w' := (SH, dt)) rfl ?_
            have r41 : 0 ≤ dt 85 (((dt 79 15) + l24_3).toNat) ∧ dt 85 (((dt 79 15) + l24_3).toNat) ≤ 255 := InvC_get hI 85 (((dt 79 15) + l24_3).toNat) rfl rfl
            refine go_smpq PM156 (L' := [some (.inr (.inr (some 79))), some (.inr (.inr (some 1013))), some (.inl l24_2), some (.inl l24_3)]) (st' := [.inl (dt 85 (((dt 79 15) + l24_3).toNat))]) (w' := (SH, dt)) rfl rfl (s_iald (n := 500) (f := dt 85) rfl ⟨by omega, by omega⟩) ?_
            refine go_toq PM156 (k := 2) (pc' := 49) (L' := [some (.inr (.inr (some 79))), some (.inr (.inr (some 1013))), some (.inl l24_2), some (.inl l24_3)]) (st' := [.inl l24_3, .inr (.inr (some 1013)), .inl (dt 85 (((dt 79 15) + l24_3).toNat))]) (w' := (SH, dt)) rfl ?_
            refine go_callq PM156 PM250 (Q' := _) rfl rfl rfl rfl (sp_J0_charAt_5068e_13f L xs sio (d + 0) dt hI  l24_3 (by first | exact bnd i33 (by decide) (by decide) | exact bndd i33 c39 (by decide) (by decide) | exact ⟨by fail, by fail⟩) ) ?_
            rintro _ _ ⟨rfl, h42⟩
            refine ⟨rfl, ?_⟩
            rcases h42 with ⟨v_h42, rfl, h42r, h42⟩
            refine go_ifq PM156 (k := 0) (p1 := 59) (p2 := 55) (L' := [some (.inr (.inr (some 79))), some (.inr (.inr (some 1013))), some (.inl l24_2), some (.inl l24_3)]) (st' := []) (w' := (SH, dt)) rfl (c_ne (a := dt 85 (((dt 79 15) + l24_3).toNat)) (b := v_h42) (by first | exact bnd r41 (by decide) (by decide) | exact ⟨by fail, by fail⟩) (by first | exact bnd h42r (by decide) (by decide) | exact ⟨by fail, by fail⟩)) (fun c43 => ?_) (fun c43 => ?_)
            · skip
              replace c43 := hid c43
              refine go_toq PM156 (k := 4) (pc' := 24) (L' := [some (.inr (.inr (some 79))), some (.inr (.inr (some 1013))), some (.inl 0), some (.inl (l24_3 + 1))]) (st' := []) (w' := (SH, dt)) rfl ?_
              have u33_ := hid (And.intro (unhid i35) (And.intro (unhid i36) (And.intro (unhid c40) (unhid c43))))
              exact GO.le (ih_loop37 0 (l24_3 + 1) (by first | omega | (intro z; first | fail | exact WQ_0 (by fail) (by fail) | exact WM_a ⟨by fail, by fail⟩ (by fail) | exact WQ_s (q1 (by fail)) ⟨by fail, by fail⟩ (mB_in (by fail) (by fail)).symm h42 (by fail) | exact WM_b ⟨by fail, by fail⟩ (by fail) (mB_in (by fail) (by fail)).symm h42 (by fail))) (by first | omega | (intro z; first | fail | exact WQ_0 (by fail) (by fail) | exact WM_a ⟨by fail, by fail⟩ (by fail) | exact WQ_s (q1 (by fail)) ⟨by fail, by fail⟩ (mB_in (by fail) (by fail)).symm h42 (by fail) | exact WM_b ⟨by fail, by fail⟩ (by fail) (mB_in (by fail) (by fail)).symm h42 (by fail))) (by first | omega | (intro z; first | fail | exact WQ_0 (by fail) (by fail) | exact WM_a ⟨by fail, by fail⟩ (by fail) | exact WQ_s (q1 (by fail)) ⟨by fail, by fail⟩ (mB_in (by fail) (by fail)).symm h42 (by fail) | exact WM_b ⟨by fail, by fail⟩ (by fail) (mB_in (by fail) (by fail)).symm h42 (by fail))) (by first | fail | (intro z; first | fail | exact WQ_0 (by fail) (by fail) | exact WM_a ⟨by omega, by omega⟩ (by fail) | exact WQ_s (q1 (by (have z_ := unhid u33_; omega))) ⟨by omega, by omega⟩ (mB_in (by omega) (by omega)).symm h42 (by fail) | exact WM_b ⟨by omega, by omega⟩ (by omega) (mB_in (by omega) (by omega)).symm h42 (by (have z_ := unhid u33_; omega)))) (by first | omega | (intro z; first | fail | exact WQ_0 (by fail) (by fail) | exact WM_a ⟨by fail, by fail⟩ (by fail) | exact WQ_s (q1 (by fail)) ⟨by fail, by fail⟩ (mB_in (by fail) (by fail)).symm h42 (by fail) | exact WM_b ⟨by fail, by fail⟩ (by fail) (mB_in (by fail) (by fail)).symm h42 (by fail))) (by omega)) ⟨.inl rfl, .inl rfl, .inl rfl, .inl rfl, trivial⟩
            · skip
              refine go_toq PM156 (k := 5) (pc' := 24) (L' := [some (.inr (.inr (some 79))), some (.inr (.inr (some 1013))), some (.inl 1), some (.inl (l24_3 + 1))]) (st' := []) (w' := (SH, dt)) rfl ?_
              exact GO.le (ih_loop37 1 (l24_3 + 1) (by first | omega | (intro z; first | fail | exact WQ_0 (by fail) (by fail) | exact WM_a ⟨by fail, by fail⟩ (by fail) | exact WQ_s (q1 (by fail)) ⟨by fail, by fail⟩ (mB_in (by fail) (by fail)).symm h42 (by fail) | exact WM_b ⟨by fail, by fail⟩ (by fail) (mB_in (by fail) (by fail)).symm h42 (by fail))) (by first | omega | (intro z; first | fail | exact WQ_0 (by fail) (by fail) | exact WM_a ⟨by fail, by fail⟩ (by fail) | exact WQ_s (q1 (by fail)) ⟨by fail, by fail⟩ (mB_in (by fail) (by fail)).symm h42 (by fail) | exact WM_b ⟨by fail, by fail⟩ (by fail) (mB_in (by fail) (by fail)).symm h42 (by fail))) (by first | fail | (intro z; first | fail | exact WQ_0 (by omega) (by fail) | exact WM_a ⟨by fail, by fail⟩ (by fail) | exact WQ_s (q1 (by (have z0_ := unhid i35; have z1_ := unhid i36; have z2_ := unhid c40; omega))) ⟨by omega, by omega⟩ (mB_in (by omega) (by omega)).symm h42 (by omega) | exact WM_b ⟨by fail, by fail⟩ (by fail) (mB_in (by fail) (by fail)).symm h42 (by fail))) (by first | omega | (intro z; first | fail | exact WQ_0 (by fail) (by fail) | exact WM_a ⟨by fail, by fail⟩ (by fail) | exact WQ_s (q1 (by fail)) ⟨by fail, by fail⟩ (mB_in (by fail) (by fail)).symm h42 (by fail) | exact WM_b ⟨by fail, by fail⟩ (by fail) (mB_in (by fail) (by fail)).symm h42 (by fail))) (by first | omega | (intro z; first | fail | exact WQ_0 (by fail) (by fail) | exact WM_a ⟨by fail, by fail⟩ (by fail) | exact WQ_s (q1 (by fail)) ⟨by fail, by fail⟩ (mB_in (by fail) (by fail)).symm h42 (by fail) | exact WM_b ⟨by fail, by fail⟩ (by fail) (mB_in (by fail) (by fail)).symm h42 (by fail))) (by omega)) ⟨.inl rfl, .inl rfl, .inl rfl, .inl rfl, trivial⟩
    exact GO.le (loop37 _ 1 0 (by first | omega | (intro z; first | fail | exact WQ_0 (by fail) (by fail) | exact WM_a ⟨by fail, by fail⟩ (by fail) | exact WQ_s (q1 (by fail)) ⟨by fail, by fail⟩ (mB_in (by fail) (by fail)).symm hI (by fail) | exact WM_b ⟨by fail, by fail⟩ (by fail) (mB_in (by fail) (by fail)).symm hI (by fail))) (by first | omega | (intro z; first | fail | exact WQ_0 (by fail) (by fail) | exact WM_a ⟨by fail, by fail⟩ (by fail) | exact WQ_s (q1 (by fail)) ⟨by fail, by fail⟩ (mB_in (by fail) (by fail)).symm hI (by fail) | exact WM_b ⟨by fail, by fail⟩ (by fail) (mB_in (by fail) (by fail)).symm hI (by fail))) (by first | fail | (intro z; first | fail | exact WQ_0 (by omega) (by omega) | exact WM_a ⟨by fail, by fail⟩ (by fail) | exact WQ_s (q1 (by fail)) ⟨by fail, by fail⟩ (mB_in (by fail) (by fail)).symm hI (by fail) | exact WM_b ⟨by fail, by fail⟩ (by fail) (mB_in (by fail) (by fail)).symm hI (by fail))) (by first | omega | (intro z; first | fail | exact WQ_0 (by fail) (by fail) | exact WM_a ⟨by fail, by fail⟩ (by fail) | exact WQ_s (q1 (by fail)) ⟨by fail, by fail⟩ (mB_in (by fail) (by fail)).symm hI (by fail) | exact WM_b ⟨by fail, by fail⟩ (by fail) (mB_in (by fail) (by fail)).symm hI (by fail))) (by first | omega | (intro z; first | fail | exact WQ_0 (by fail) (by fail) | exact WM_a ⟨by fail, by fail⟩ (by fail) | exact WQ_s (q1 (by fail)) ⟨by fail, by fail⟩ (mB_in (by fail) (by fail)).symm hI (by fail) | exact WM_b ⟨by fail, by fail⟩ (by fail) (mB_in (by fail) (by fail)).symm hI (by fail))) (Nat.lt_succ_self _)) ⟨.inl rfl, .inl rfl, .inl rfl, .inl rfl, trivial⟩
theorem sp_J1_charAt_3b067_14f (L : Nat) (xs : Nat → Int32) (sio : Option Nat) (d : Nat) (dt : Nat → Nat → Int) (hI : InvC dt)  (p2 : Int) (h_p2 : 0 ≤ p2 ∧ p2 ≤ 3)  : GO (am_XX L xs sio) (d + 2) 256 0 [some (.inr (.inr (some 2014))), some (.inl p2)] [] (SH, dt) (fun r w2 => w2 = (SH, dt) ∧ ((∃ v : Int, r = some (.inl v) ∧ (0 ≤ v ∧ v ≤ 65535) ∧ (v = (am_Sby.getD 14 []).getD p2.toNat 0)))) := by
  refine go_toq PM256 (k := 3) (pc' := 3) (L' := [some (.inr (.inr (some 2014))), some (.inl p2)]) (st' := [.inl 4, .inl p2]) (w' := (SH, dt)) rfl ?_
  refine go_callq PM256 PM255 (Q' := _) rfl rfl rfl rfl (sp_J0_checkIndex_df160 L xs sio (d + 0) dt hI  p2 (by first | exact h_p2 | exact bnd h_p2 (by decide) (by decide) | exact ⟨by fail, by fail⟩) 4 ⟨by decide, by decide⟩ (by first | exact True.intro | with_reducible assumption | rfl | omega | trivial)) ?_
  rintro _ _ ⟨rfl, h1⟩
  refine ⟨rfl, ?_⟩
  rcases h1 with ⟨rfl, h1⟩
  refine go_toq PM256 (k := 2) (pc' := 8) (L' := [some (.inr (.inr (some 2014))), some (.inl p2)]) (st' := [.inl p2, .inr (.inr (some 2014))]) (w' := (SH, dt)) rfl ?_
  have r2 := sby_R 14 (p2).toNat
  refine go_smpq PM256 (L' := [some (.inr (.inr (some 2014))), some (.inl p2)]) (st' := [.inl ((am_Sby.getD 14 []).getD (p2).toNat 0)]) (w' := (SH, dt)) rfl rfl (s_bald (n := 4) (f := fun q => (am_Sby.getD 14 []).getD q 0) rfl (by first | exact bndx h_p2 (by decide) (by decide) | exact ⟨by fail, by fail⟩)) ?_
  have r3 : 0 ≤ am_and ((am_Sby.getD 14 []).getD (p2).toNat 0) 255 ∧ am_and ((am_Sby.getD 14 []).getD (p2).toNat 0) 255 ≤ 255 := and_R255
  have r4 := i2c_R (am_and ((am_Sby.getD 14 []).getD (p2).toNat 0) 255)
  refine go_toq PM256 (k := 3) (pc' := 14) (L' := [some (.inr (.inr (some 2014))), some (.inl p2)]) (st' := [.inl (am_i2c (am_and ((am_Sby.getD 14 []).getD (p2).toNat 0) 255))]) (w' := (SH, dt)) rfl ?_
  refine go_retvq PM256 (v := am_i2c (am_and ((am_Sby.getD 14 []).getD (p2).toNat 0) 255)) rfl (decide_eq_true (show 0 ≤ am_i2c (am_and ((am_Sby.getD 14 []).getD (p2).toNat 0) 255) ∧ am_i2c (am_and ((am_Sby.getD 14 []).getD (p2).toNat 0) 255) < 65536 by omega)) ?_
  exact ⟨rfl, ⟨_, rfl, ⟨by omega, by omega⟩, by exact ic_id ⟨by omega, by omega⟩⟩⟩
theorem sp_J0_charAt_5068e_14f (L : Nat) (xs : Nat → Int32) (sio : Option Nat) (d : Nat) (dt : Nat → Nat → Int) (hI : InvC dt)  (p1 : Int) (h_p1 : 0 ≤ p1 ∧ p1 ≤ 3)  : GO (am_XX L xs sio) (d + 3) 250 0 [some (.inr (.inr (some 1014))), some (.inl p1)] [] (SH, dt) (fun r w2 => w2 = (SH, dt) ∧ ((∃ v : Int, r = some (.inl v) ∧ (0 ≤ v ∧ v ≤ 65535) ∧ (v = (am_Sby.getD 14 []).getD p1.toNat 0)))) := by
  refine go_toq PM250 (k := 1) (pc' := 1) (L' := [some (.inr (.inr (some 1014))), some (.inl p1)]) (st' := [.inr (.inr (some 1014))]) (w' := (SH, dt)) rfl ?_
  refine go_callq PM250 PM254 (Q' := _) rfl rfl rfl rfl (sp_J0_isLatin1_aae02_1014 L xs sio (d + 2) dt hI   ) ?_
  rintro _ _ ⟨rfl, h1⟩
  refine ⟨rfl, ?_⟩
  rcases h1 with ⟨rfl, h1⟩
  refine go_toq PM250 (k := 4) (pc' := 12) (L' := [some (.inr (.inr (some 1014))), some (.inl p1)]) (st' := [.inl p1, .inr (.inr (some 2014))]) (w' := (SH, dt)) rfl ?_
  refine go_callq PM250 PM256 (Q' := _) rfl rfl rfl rfl (sp_J1_charAt_3b067_14f L xs sio (d + 0) dt hI  p1 (by first | exact h_p1 | exact bnd h_p1 (by decide) (by decide) | exact ⟨by fail, by fail⟩) ) ?_
  rintro _ _ ⟨rfl, h2⟩
  refine ⟨rfl, ?_⟩
  rcases h2 with ⟨v_h2, rfl, h2r, h2⟩
  refine go_retvq PM250 (v := v_h2) rfl (decide_eq_true (show 0 ≤ v_h2 ∧ v_h2 < 65536 by omega)) ?_
  exact ⟨rfl, ⟨_, rfl, ⟨by omega, by omega⟩, by first | exact True.intro | with_reducible assumption | rfl | fail | trivial⟩⟩
set_option maxRecDepth 20000 in
theorem sp_X6_is_14f (L : Nat) (xs : Nat → Int32) (sio : Option Nat) (d : Nat) (dt : Nat → Nat → Int) (hI : InvC dt)   (h_p0 : dt 79 13 ≤ 500) (h_p1 : dt 79 15 ≤ dt 79 13) (h_p2 : dt 79 13 ≤ dt 79 12) : GO (am_XX L xs sio) (d + 4) 156 0 [some (.inr (.inr (some 79))), some (.inr (.inr (some 1014))), none, none] [] (SH, dt) (fun r w2 => w2 = (SH, dt) ∧ ((∃ v : Int, r = some (.inl v) ∧ (0 ≤ v ∧ v ≤ 1) ∧ (v = wm (am_Sby.getD 14 []) (mB (dt 85) (dt 79 12)) (dt 79 15).toNat (dt 79 13).toNat)))) := by
  have r1 : 0 ≤ dt 79 13 ∧ dt 79 13 ≤ 501 := InvC_get hI 79 13 rfl rfl
  have r2 : 0 ≤ dt 79 15 ∧ dt 79 15 ≤ 500 := InvC_get hI 79 15 rfl rfl
  have r3 : 0 ≤ dt 79 12 ∧ dt 79 12 ≤ 500 := InvC_get hI 79 12 rfl rfl
  have hlen : (((am_Sby.getD 14 []).length : Nat) : Int) = 4 := rfl
  refine go_toq PM156 (k := 6) (pc' := 10) (L' := [some (.inr (.inr (some 79))), some (.inr (.inr (some 1014))), none, none]) (st' := [.inr (.inr (some 1014)), .inl ((dt 79 13) - (dt 79 15))]) (w' := (SH, dt)) rfl ?_
  refine go_callq PM156 PM249 (Q' := _) rfl rfl rfl rfl (sp_J0_length_8abf5_1014 L xs sio (d + 2) dt hI   ) ?_
  rintro _ _ ⟨rfl, h4⟩
  refine ⟨rfl, ?_⟩
  rcases h4 with ⟨rfl, h4⟩
  refine go_ifq PM156 (k := 0) (p1 := 20) (p2 := 16) (L' := [some (.inr (.inr (some 79))), some (.inr (.inr (some 1014))), none, none]) (st' := []) (w' := (SH, dt)) rfl (c_ne (a := (dt 79 13) - (dt 79 15)) (b := 4) ⟨by omega, by omega⟩ ⟨by decide, by decide⟩) (fun c5 => ?_) (fun c5 => ?_)
  · skip
    replace c5 := hid c5
    refine go_toq PM156 (k := 4) (pc' := 24) (L' := [some (.inr (.inr (some 79))), some (.inr (.inr (some 1014))), some (.inl 0), some (.inl 0)]) (st' := []) (w' := (SH, dt)) rfl ?_
    have loop18 : ∀ (k_ : Nat) (l24_2 : Int) (l24_3 : Int) (i13 : 0 ≤ l24_2 ∧ l24_2 ≤ 1) (i14 : 0 ≤ l24_3 ∧ l24_3 ≤ 4) (i15 : l24_2 = 1 → WQ (am_Sby.getD 14 []) (dt 79 13 - dt 79 15) (mB (dt 85) (dt 79 12)) (dt 79 15) l24_3) (i16 : l24_2 = 0 → wm (am_Sby.getD 14 []) (mB (dt 85) (dt 79 12)) (dt 79 15).toNat (dt 79 13).toNat = 0) (i17 : l24_2 = 0 ∨ dt 79 13 - dt 79 15 = 4), (5 - l24_3).toNat < k_ → GO (am_XX L xs sio) (d + 4) 156 24 [some (.inr (.inr (some 79))), some (.inr (.inr (some 1014))), some (.inl l24_2), some (.inl l24_3)] [] (SH, dt) (fun r w2 => w2 = (SH, dt) ∧ ((∃ v : Int, r = some (.inl v) ∧ (0 ≤ v ∧ v ≤ 1) ∧ (v = wm (am_Sby.getD 14 []) (mB (dt 85) (dt 79 12)) (dt 79 15).toNat (dt 79 13).toNat)))) := by
      intro k_
      induction k_ with
      | zero => intro l24_2 l24_3 i13 i14 i15 i16 i17 hm; exact absurd hm (Nat.not_lt_zero _)
      | succ k_ ih_loop18 =>
        intro l24_2 l24_3 i13 i14 i15 i16 i17 hm
        replace i15 := hid i15
        replace i16 := hid i16
        replace i17 := hid i17
        have q1 := i15
        have q2 := i16
        refine go_toq PM156 (k := 2) (pc' := 26) (L' := [some (.inr (.inr (some 79))), some (.inr (.inr (some 1014))), some (.inl l24_2), some (.inl l24_3)]) (st' := [.inr (.inr (some 1014)), .inl l24_3]) (w' := (SH, dt)) rfl ?_
        refine go_callq PM156 PM249 (Q' := _) rfl rfl rfl rfl (sp_J0_length_8abf5_1014 L xs sio (d + 2) dt hI   ) ?_
        rintro _ _ ⟨rfl, h19⟩
        refine ⟨rfl, ?_⟩
        rcases h19 with ⟨rfl, h19⟩
        refine go_ifq PM156 (k := 0) (p1 := 67) (p2 := 32) (L' := [some (.inr (.inr (some 79))), some (.inr (.inr (some 1014))), some (.inl l24_2), some (.inl l24_3)]) (st' := []) (w' := (SH, dt)) rfl (c_ge (a := l24_3) (b := 4) (by first | exact bnd i14 (by decide) (by decide) | exact ⟨by fail, by fail⟩) ⟨by decide, by decide⟩) (fun c20 => ?_) (fun c20 => ?_)
        · skip
          refine go_toq PM156 (k := 1) (pc' := 68) (L' := [some (.inr (.inr (some 79))), some (.inr (.inr (some 1014))), some (.inl l24_2), some (.inl l24_3)]) (st' := [.inl l24_2]) (w' := (SH, dt)) rfl ?_
          refine go_retvq PM156 (v := l24_2) rfl (decide_eq_true (show l24_2 = 0 ∨ l24_2 = 1 by omega)) ?_
          exact ⟨rfl, ⟨_, rfl, ⟨by omega, by omega⟩, by rcases (show l24_2 = 0 ∨ l24_2 = 1 by omega) with z | z <;> first | (rw [q2 z]; exact z) | (rw [WM_1 (q1 z) ⟨by omega, by omega⟩ (by omega)]; exact z)⟩⟩
        · skip
          refine go_ifq PM156 (k := 1) (p1 := 67) (p2 := 36) (L' := [some (.inr (.inr (some 79))), some (.inr (.inr (some 1014))), some (.inl l24_2), some (.inl l24_3)]) (st' := []) (w' := (SH, dt)) rfl (z_eq (a := l24_2) (by first | exact bnd i13 (by decide) (by decide) | exact ⟨by fail, by fail⟩)) (fun c21 => ?_) (fun c21 => ?_)
          · skip
            refine go_toq PM156 (k := 1) (pc' := 68) (L' := [some (.inr (.inr (some 79))), some (.inr (.inr (some 1014))), some (.inl l24_2), some (.inl l24_3)]) (st' := [.inl l24_2]) (w' := (SH, dt)) rfl ?_
            refine go_retvq PM156 (v := l24_2) rfl (decide_eq_true (show l24_2 = 0 ∨ l24_2 = 1 by omega)) ?_
            exact ⟨rfl, ⟨_, rfl, ⟨by omega, by omega⟩, by rcases (show l24_2 = 0 ∨ l24_2 = 1 by omega) with z | z <;> first | (rw [q2 z]; exact z) | (rw [WM_1 (q1 z) ⟨by omega, by omega⟩ (by omega)]; exact z)⟩⟩
          · skip
            replace c21 := hid c21
            refine go_toq PM156 (k := 6) (pc' := 46) (L' := [some (.inr (.inr (some 79))), some (.inr (.inr (some 1014))), some (.inl l24_2), some (.inl l24_3)]) (st' := [.inl ((dt 79 15) + l24_3), .inr (.inr (some 85))]) (w' := (SH, dt)) rfl ?_
            have r22 : 0 ≤ dt 85 (((dt 79 15) + l24_3).toNat) ∧ dt 85 (((dt 79 15) + l24_3).toNat) ≤ 255 := InvC_get hI 85 (((dt 79 15) + l24_3).toNat) rfl rfl
            have u34_ := hid (And.intro (unhid c5) (And.intro (unhid i16) (And.intro (unhid i17) (unhid c21))))
            refine go_smpq PM156 (L' := [some (.inr (.inr (some 79))), some (.inr (.inr (some 1014))), some (.inl l24_2), some (.inl l24_3)]) (st' := [.inl (dt 85 (((dt 79 15) + l24_3).toNat))]) (w' := (SH, dt)) rfl rfl (s_iald (n := 500) (f := dt 85) rfl ⟨by omega, by (have z_ := unhid u34_; omega)⟩) ?_
            refine go_toq PM156 (k := 2) (pc' := 49) (L' := [some (.inr (.inr (some 79))), some (.inr (.inr (some 1014))), some (.inl l24_2), some (.inl l24_3)]) (st' := [.inl l24_3, .inr (.inr (some 1014)), .inl (dt 85 (((dt 79 15) + l24_3).toNat))]) (w' := (SH, dt)) rfl ?_
            refine go_callq PM156 PM250 (Q' := _) rfl rfl rfl rfl (sp_J0_charAt_5068e_14f L xs sio (d + 0) dt hI  l24_3 (by first | exact bnd i14 (by decide) (by decide) | exact bndd i14 c20 (by decide) (by decide) | exact ⟨by fail, by fail⟩) ) ?_
            rintro _ _ ⟨rfl, h23⟩
            refine ⟨rfl, ?_⟩
            rcases h23 with ⟨v_h23, rfl, h23r, h23⟩
            refine go_ifq PM156 (k := 0) (p1 := 59) (p2 := 55) (L' := [some (.inr (.inr (some 79))), some (.inr (.inr (some 1014))), some (.inl l24_2), some (.inl l24_3)]) (st' := []) (w' := (SH, dt)) rfl (c_ne (a := dt 85 (((dt 79 15) + l24_3).toNat)) (b := v_h23) (by first | exact bnd r22 (by decide) (by decide) | exact ⟨by fail, by fail⟩) (by first | exact bnd h23r (by decide) (by decide) | exact ⟨by fail, by fail⟩)) (fun c24 => ?_) (fun c24 => ?_)
            · skip
              replace c24 := hid c24
              refine go_toq PM156 (k := 4) (pc' := 24) (L' := [some (.inr (.inr (some 79))), some (.inr (.inr (some 1014))), some (.inl 0), some (.inl (l24_3 + 1))]) (st' := []) (w' := (SH, dt)) rfl ?_
              have u35_ := hid (And.intro (unhid c5) (And.intro (unhid i16) (And.intro (unhid i17) (And.intro (unhid c21) (unhid c24)))))
              exact GO.le (ih_loop18 0 (l24_3 + 1) (by first | omega | (intro z; first | fail | exact WQ_0 (by fail) (by fail) | exact WM_a ⟨by fail, by fail⟩ (by fail) | exact WQ_s (q1 (by fail)) ⟨by fail, by fail⟩ (mB_in (by fail) (by fail)).symm h23 (by fail) | exact WM_b ⟨by fail, by fail⟩ (by fail) (mB_in (by fail) (by fail)).symm h23 (by fail))) (by first | omega | (intro z; first | fail | exact WQ_0 (by fail) (by fail) | exact WM_a ⟨by fail, by fail⟩ (by fail) | exact WQ_s (q1 (by fail)) ⟨by fail, by fail⟩ (mB_in (by fail) (by fail)).symm h23 (by fail) | exact WM_b ⟨by fail, by fail⟩ (by fail) (mB_in (by fail) (by fail)).symm h23 (by fail))) (by first | omega | (intro z; first | fail | exact WQ_0 (by fail) (by fail) | exact WM_a ⟨by fail, by fail⟩ (by fail) | exact WQ_s (q1 (by fail)) ⟨by fail, by fail⟩ (mB_in (by fail) (by fail)).symm h23 (by fail) | exact WM_b ⟨by fail, by fail⟩ (by fail) (mB_in (by fail) (by fail)).symm h23 (by fail))) (by first | (have z_ := unhid u35_; omega) | (intro z; first | fail | exact WQ_0 (by fail) (by fail) | exact WM_a ⟨by fail, by fail⟩ (by fail) | exact WQ_s (q1 (by fail)) ⟨by fail, by fail⟩ (mB_in (by fail) (by fail)).symm h23 (by fail) | exact WM_b ⟨by fail, by fail⟩ (by fail) (mB_in (by fail) (by fail)).symm h23 (by fail))) (by first | omega | (intro z; first | fail | exact WQ_0 (by fail) (by fail) | exact WM_a ⟨by fail, by fail⟩ (by fail) | exact WQ_s (q1 (by fail)) ⟨by fail, by fail⟩ (mB_in (by fail) (by fail)).symm h23 (by fail) | exact WM_b ⟨by fail, by fail⟩ (by fail) (mB_in (by fail) (by fail)).symm h23 (by fail))) (by omega)) ⟨.inl rfl, .inl rfl, .inl rfl, .inl rfl, trivial⟩
            · skip
              refine go_toq PM156 (k := 5) (pc' := 24) (L' := [some (.inr (.inr (some 79))), some (.inr (.inr (some 1014))), some (.inl 1), some (.inl (l24_3 + 1))]) (st' := []) (w' := (SH, dt)) rfl ?_
              exact GO.le (ih_loop18 1 (l24_3 + 1) (by first | omega | (intro z; first | fail | exact WQ_0 (by fail) (by fail) | exact WM_a ⟨by fail, by fail⟩ (by fail) | exact WQ_s (q1 (by fail)) ⟨by fail, by fail⟩ (mB_in (by fail) (by fail)).symm h23 (by fail) | exact WM_b ⟨by fail, by fail⟩ (by fail) (mB_in (by fail) (by fail)).symm h23 (by fail))) (by first | omega | (intro z; first | fail | exact WQ_0 (by fail) (by fail) | exact WM_a ⟨by fail, by fail⟩ (by fail) | exact WQ_s (q1 (by fail)) ⟨by fail, by fail⟩ (mB_in (by fail) (by fail)).symm h23 (by fail) | exact WM_b ⟨by fail, by fail⟩ (by fail) (mB_in (by fail) (by fail)).symm h23 (by fail))) (by first | (have z_ := unhid u34_; omega) | (intro z; first | fail | exact WQ_0 (by fail) (by fail) | exact WM_a ⟨by fail, by fail⟩ (by fail) | exact WQ_s (q1 (by fail)) ⟨by fail, by fail⟩ (mB_in (by fail) (by fail)).symm h23 (by fail) | exact WM_b ⟨by fail, by fail⟩ (by fail) (mB_in (by fail) (by fail)).symm h23 (by fail))) (by first | omega | (intro z; first | fail | exact WQ_0 (by fail) (by fail) | exact WM_a ⟨by fail, by fail⟩ (by fail) | exact WQ_s (q1 (by fail)) ⟨by fail, by fail⟩ (mB_in (by fail) (by fail)).symm h23 (by fail) | exact WM_b ⟨by fail, by fail⟩ (by fail) (mB_in (by fail) (by fail)).symm h23 (by fail))) (by first | (have z_ := unhid u34_; omega) | (intro z; first | fail | exact WQ_0 (by fail) (by fail) | exact WM_a ⟨by fail, by fail⟩ (by fail) | exact WQ_s (q1 (by fail)) ⟨by fail, by fail⟩ (mB_in (by fail) (by fail)).symm h23 (by fail) | exact WM_b ⟨by fail, by fail⟩ (by fail) (mB_in (by fail) (by fail)).symm h23 (by fail))) (by omega)) ⟨.inl rfl, .inl rfl, .inl rfl, .inl rfl, trivial⟩
    exact GO.le (loop18 _ 0 0 (by first | omega | (intro z; first | fail | exact WQ_0 (by fail) (by fail) | exact WM_a ⟨by fail, by fail⟩ (by fail) | exact WQ_s (q1 (by fail)) ⟨by fail, by fail⟩ (mB_in (by fail) (by fail)).symm hI (by fail) | exact WM_b ⟨by fail, by fail⟩ (by fail) (mB_in (by fail) (by fail)).symm hI (by fail))) (by first | omega | (intro z; first | fail | exact WQ_0 (by fail) (by fail) | exact WM_a ⟨by fail, by fail⟩ (by fail) | exact WQ_s (q1 (by fail)) ⟨by fail, by fail⟩ (mB_in (by fail) (by fail)).symm hI (by fail) | exact WM_b ⟨by fail, by fail⟩ (by fail) (mB_in (by fail) (by fail)).symm hI (by fail))) (by first | omega | (intro z; first | fail | exact WQ_0 (by fail) (by fail) | exact WM_a ⟨by fail, by fail⟩ (by fail) | exact WQ_s (q1 (by fail)) ⟨by fail, by fail⟩ (mB_in (by fail) (by fail)).symm hI (by fail) | exact WM_b ⟨by fail, by fail⟩ (by fail) (mB_in (by fail) (by fail)).symm hI (by fail))) (by first | fail | (intro z; first | fail | exact WQ_0 (by fail) (by fail) | exact WM_a ⟨by omega, by omega⟩ (by (have z0_ := unhid c5; omega)) | exact WQ_s (q1 (by fail)) ⟨by fail, by fail⟩ (mB_in (by fail) (by fail)).symm hI (by fail) | exact WM_b ⟨by fail, by fail⟩ (by fail) (mB_in (by fail) (by fail)).symm hI (by fail))) (by first | omega | (intro z; first | fail | exact WQ_0 (by fail) (by fail) | exact WM_a ⟨by fail, by fail⟩ (by fail) | exact WQ_s (q1 (by fail)) ⟨by fail, by fail⟩ (mB_in (by fail) (by fail)).symm hI (by fail) | exact WM_b ⟨by fail, by fail⟩ (by fail) (mB_in (by fail) (by fail)).symm hI (by fail))) (Nat.lt_succ_self _)) ⟨.inl rfl, .inl rfl, .inl rfl, .inl rfl, trivial⟩
  · skip
    refine go_toq PM156 (k := 5) (pc' := 24) (L' := [some (.inr (.inr (some 79))), some (.inr (.inr (some 1014))), some (.inl 1), some (.inl 0)]) (st' := []) (w' := (SH, dt)) rfl ?_
    have loop37 : ∀ (k_ : Nat) (l24_2 : Int) (l24_3 : Int) (i32 : 0 ≤ l24_2 ∧ l24_2 ≤ 1) (i33 : 0 ≤ l24_3 ∧ l24_3 ≤ 4) (i34 : l24_2 = 1 → WQ (am_Sby.getD 14 []) (dt 79 13 - dt 79 15) (mB (dt 85) (dt 79 12)) (dt 79 15) l24_3) (i35 : l24_2 = 0 → wm (am_Sby.getD 14 []) (mB (dt 85) (dt 79 12)) (dt 79 15).toNat (dt 79 13).toNat = 0) (i36 : l24_2 = 0 ∨ dt 79 13 - dt 79 15 = 4), (5 - l24_3).toNat < k_ → GO (am_XX L xs sio) (d + 4) 156 24 [some (.inr (.inr (some 79))), some (.inr (.inr (some 1014))), some (.inl l24_2), some (.inl l24_3)] [] (SH, dt) (fun r w2 => w2 = (SH, dt) ∧ ((∃ v : Int, r = some (.inl v) ∧ (0 ≤ v ∧ v ≤ 1) ∧ (v = wm (am_Sby.getD 14 []) (mB (dt 85) (dt 79 12)) (dt 79 15).toNat (dt 79 13).toNat)))) := by
      intro k_
      induction k_ with
      | zero => intro l24_2 l24_3 i32 i33 i34 i35 i36 hm; exact absurd hm (Nat.not_lt_zero _)
      | succ k_ ih_loop37 =>
        intro l24_2 l24_3 i32 i33 i34 i35 i36 hm
        replace i34 := hid i34
        replace i35 := hid i35
        replace i36 := hid i36
        have q1 := i34
        have q2 := i35
        refine go_toq PM156 (k := 2) (pc' := 26) (L' := [some (.inr (.inr (some 79))), some (.inr (.inr (some 1014))), some (.inl l24_2), some (.inl l24_3)]) (st' := [.inr (.inr (some 1014)), .inl l24_3]) (w' := (SH, dt)) rfl ?_
        refine go_callq PM156 PM249 (Q' := _) rfl rfl rfl rfl (sp_J0_length_8abf5_1014 L xs sio (d + 2) dt hI   ) ?_
        rintro _ _ ⟨rfl, h38⟩
        refine ⟨rfl, ?_⟩
        rcases h38 with ⟨rfl, h38⟩
        refine go_ifq PM156 (k := 0) (p1 := 67) (p2 := 32) (L' := [some (.inr (.inr (some 79))), some (.inr (.inr (some 1014))), some (.inl l24_2), some (.inl l24_3)]) (st' := []) (w' := (SH, dt)) rfl (c_ge (a := l24_3) (b := 4) (by first | exact bnd i33 (by decide) (by decide) | exact ⟨by fail, by fail⟩) ⟨by decide, by decide⟩) (fun c39 => ?_) (fun c39 => ?_)
        · skip
          refine go_toq PM156 (k := 1) (pc' := 68) (L' := [some (.inr (.inr (some 79))), some (.inr (.inr (some 1014))), some (.inl l24_2), some (.inl l24_3)]) (st' := [.inl l24_2]) (w' := (SH, dt)) rfl ?_
          refine go_retvq PM156 (v := l24_2) rfl (decide_eq_true (show l24_2 = 0 ∨ l24_2 = 1 by omega)) ?_
          exact ⟨rfl, ⟨_, rfl, ⟨by omega, by omega⟩, by rcases (show l24_2 = 0 ∨ l24_2 = 1 by omega) with z | z <;> first | (rw [q2 z]; exact z) | (rw [WM_1 (q1 z) ⟨by omega, by omega⟩ (by omega)]; exact z)⟩⟩
        · skip
          refine go_ifq PM156 (k := 1) (p1 := 67) (p2 := 36) (L' := [some (.inr (.inr (some 79))), some (.inr (.inr (some 1014))), some (.inl l24_2), some (.inl l24_3)]) (st' := []) (w' := (SH, dt)) rfl (z_eq (a := l24_2) (by first | exact bnd i32 (by decide) (by decide) | exact ⟨by fail, by fail⟩)) (fun c40 => ?_) (fun c40 => ?_)
          · skip
            refine go_toq PM156 (k := 1) (pc' := 68) (L' := [some (.inr (.inr (some 79))), some (.inr (.inr (some 1014))), some (.inl l24_2), some (.inl l24_3)]) (st' := [.inl l24_2]) (w' := (SH, dt)) rfl ?_
            refine go_retvq PM156 (v := l24_2) rfl (decide_eq_true (show l24_2 = 0 ∨ l24_2 = 1 by omega)) ?_
            exact ⟨rfl, ⟨_, rfl, ⟨by omega, by omega⟩, by rcases (show l24_2 = 0 ∨ l24_2 = 1 by omega) with z | z <;> first | (rw [q2 z]; exact z) | (rw [WM_1 (q1 z) ⟨by omega, by omega⟩ (by omega)]; exact z)⟩⟩
          · skip
            replace c40 := hid c40
            refine go_toq PM156 (k := 6) (pc' := 46) (L' := [some (.inr (.inr (some 79))), some (.inr (.inr (some 1014))), some (.inl l24_2), some (.inl l24_3)]) (st' := [.inl ((dt 79 15) + l24_3), .inr (.inr (some 85))]) (w' := (SH, dt)) rfl ?_
            have r41 : 0 ≤ dt 85 (((dt 79 15) + l24_3).toNat) ∧ dt 85 (((dt 79 15) + l24_3).toNat) ≤ 255 := InvC_get hI 85 (((dt 79 15) + l24_3).toNat) rfl rfl
            refine go_smpq PM156 (L' := [some (.inr (.inr (some 79))), some (.inr (.inr (some 1014))), some (.inl l24_2), some (.inl l24_3)]) (st' := [.inl (dt 85 (((dt 79 15) + l24_3).toNat))]) (w' := (SH, dt)) rfl rfl (s_iald (n := 500) (f := dt 85) rfl ⟨by omega, by omega⟩) ?_
            refine go_toq PM156 (k := 2) (pc' := 49) (L' := [some (.inr (.inr (some 79))), some (.inr (.inr (some 1014))), some (.inl l24_2), some (.inl l24_3)]) (st' := [.inl l24_3, .inr (.inr (some 1014)), .inl (dt 85 (((dt 79 15) + l24_3).toNat))]) (w' := (SH, dt)) rfl ?_
            refine go_callq PM156 PM250 (Q' := _) rfl rfl rfl rfl (sp_J0_charAt_5068e_14f L xs sio (d + 0) dt hI  l24_3 (by first | exact bnd i33 (by decide) (by decide) | exact bndd i33 c39 (by decide) (by decide) | exact ⟨by fail, by fail⟩) ) ?_
            rintro _ _ ⟨rfl, h42⟩
            refine ⟨rfl, ?_⟩
            rcases h42 with ⟨v_h42, rfl, h42r, h42⟩
            refine go_ifq PM156 (k := 0) (p1 := 59) (p2 := 55) (L' := [some (.inr (.inr (some 79))), some (.inr (.inr (some 1014))), some (.inl l24_2), some (.inl l24_3)]) (st' := []) (w' := (SH, dt)) rfl (c_ne (a := dt 85 (((dt 79 15) + l24_3).toNat)) (b := v_h42) (by first | exact bnd r41 (by decide) (by decide) | exact ⟨by fail, by fail⟩) (by first | exact bnd h42r (by decide) (by decide) | exact ⟨by fail, by fail⟩)) (fun c43 => ?_) (fun c43 => ?_)
            · skip
              replace c43 := hid c43
              refine go_toq PM156 (k := 4) (pc' := 24) (L' := [some (.inr (.inr (some 79))), some (.inr (.inr (some 1014))), some (.inl 0), some (.inl (l24_3 + 1))]) (st' := []) (w' := (SH, dt)) rfl ?_
              have u36_ := hid (And.intro (unhid i35) (And.intro (unhid i36) (And.intro (unhid c40) (unhid c43))))
              exact GO.le (ih_loop37 0 (l24_3 + 1) (by first | omega | (intro z; first | fail | exact WQ_0 (by fail) (by fail) | exact WM_a ⟨by fail, by fail⟩ (by fail) | exact WQ_s (q1 (by fail)) ⟨by fail, by fail⟩ (mB_in (by fail) (by fail)).symm h42 (by fail) | exact WM_b ⟨by fail, by fail⟩ (by fail) (mB_in (by fail) (by fail)).symm h42 (by fail))) (by first | omega | (intro z; first | fail | exact WQ_0 (by fail) (by fail) | exact WM_a ⟨by fail, by fail⟩ (by fail) | exact WQ_s (q1 (by fail)) ⟨by fail, by fail⟩ (mB_in (by fail) (by fail)).symm h42 (by fail) | exact WM_b ⟨by fail, by fail⟩ (by fail) (mB_in (by fail) (by fail)).symm h42 (by fail))) (by first | omega | (intro z; first | fail | exact WQ_0 (by fail) (by fail) | exact WM_a ⟨by fail, by fail⟩ (by fail) | exact WQ_s (q1 (by fail)) ⟨by fail, by fail⟩ (mB_in (by fail) (by fail)).symm h42 (by fail) | exact WM_b ⟨by fail, by fail⟩ (by fail) (mB_in (by fail) (by fail)).symm h42 (by fail))) (by first | fail | (intro z; first | fail | exact WQ_0 (by fail) (by fail) | exact WM_a ⟨by omega, by omega⟩ (by fail) | exact WQ_s (q1 (by (have z_ := unhid u36_; omega))) ⟨by omega, by omega⟩ (mB_in (by omega) (by omega)).symm h42 (by fail) | exact WM_b ⟨by omega, by omega⟩ (by omega) (mB_in (by omega) (by omega)).symm h42 (by (have z_ := unhid u36_; omega)))) (by first | omega | (intro z; first | fail | exact WQ_0 (by fail) (by fail) | exact WM_a ⟨by fail, by fail⟩ (by fail) | exact WQ_s (q1 (by fail)) ⟨by fail, by fail⟩ (mB_in (by fail) (by fail)).symm h42 (by fail) | exact WM_b ⟨by fail, by fail⟩ (by fail) (mB_in (by fail) (by fail)).symm h42 (by fail))) (by omega)) ⟨.inl rfl, .inl rfl, .inl rfl, .inl rfl, trivial⟩
            · skip
              refine go_toq PM156 (k := 5) (pc' := 24) (L' := [some (.inr (.inr (some 79))), some (.inr (.inr (some 1014))), some (.inl 1), some (.inl (l24_3 + 1))]) (st' := []) (w' := (SH, dt)) rfl ?_
              exact GO.le (ih_loop37 1 (l24_3 + 1) (by first | omega | (intro z; first | fail | exact WQ_0 (by fail) (by fail) | exact WM_a ⟨by fail, by fail⟩ (by fail) | exact WQ_s (q1 (by fail)) ⟨by fail, by fail⟩ (mB_in (by fail) (by fail)).symm h42 (by fail) | exact WM_b ⟨by fail, by fail⟩ (by fail) (mB_in (by fail) (by fail)).symm h42 (by fail))) (by first | omega | (intro z; first | fail | exact WQ_0 (by fail) (by fail) | exact WM_a ⟨by fail, by fail⟩ (by fail) | exact WQ_s (q1 (by fail)) ⟨by fail, by fail⟩ (mB_in (by fail) (by fail)).symm h42 (by fail) | exact WM_b ⟨by fail, by fail⟩ (by fail) (mB_in (by fail) (by fail)).symm h42 (by fail))) (by first | fail | (intro z; first | fail | exact WQ_0 (by omega) (by fail) | exact WM_a ⟨by fail, by fail⟩ (by fail) | exact WQ_s (q1 (by (have z0_ := unhid i35; have z1_ := unhid i36; have z2_ := unhid c40; omega))) ⟨by omega, by omega⟩ (mB_in (by omega) (by omega)).symm h42 (by omega) | exact WM_b ⟨by fail, by fail⟩ (by fail) (mB_in (by fail) (by fail)).symm h42 (by fail))) (by first | omega | (intro z; first | fail | exact WQ_0 (by fail) (by fail) | exact WM_a ⟨by fail, by fail⟩ (by fail) | exact WQ_s (q1 (by fail)) ⟨by fail, by fail⟩ (mB_in (by fail) (by fail)).symm h42 (by fail) | exact WM_b ⟨by fail, by fail⟩ (by fail) (mB_in (by fail) (by fail)).symm h42 (by fail))) (by first | omega | (intro z; first | fail | exact WQ_0 (by fail) (by fail) | exact WM_a ⟨by fail, by fail⟩ (by fail) | exact WQ_s (q1 (by fail)) ⟨by fail, by fail⟩ (mB_in (by fail) (by fail)).symm h42 (by fail) | exact WM_b ⟨by fail, by fail⟩ (by fail) (mB_in (by fail) (by fail)).symm h42 (by fail))) (by omega)) ⟨.inl rfl, .inl rfl, .inl rfl, .inl rfl, trivial⟩
    exact GO.le (loop37 _ 1 0 (by first | omega | (intro z; first | fail | exact WQ_0 (by fail) (by fail) | exact WM_a ⟨by fail, by fail⟩ (by fail) | exact WQ_s (q1 (by fail)) ⟨by fail, by fail⟩ (mB_in (by fail) (by fail)).symm hI (by fail) | exact WM_b ⟨by fail, by fail⟩ (by fail) (mB_in (by fail) (by fail)).symm hI (by fail))) (by first | omega | (intro z; first | fail | exact WQ_0 (by fail) (by fail) | exact WM_a ⟨by fail, by fail⟩ (by fail) | exact WQ_s (q1 (by fail)) ⟨by fail, by fail⟩ (mB_in (by fail) (by fail)).symm hI (by fail) | exact WM_b ⟨by fail, by fail⟩ (by fail) (mB_in (by fail) (by fail)).symm hI (by fail))) (by first | fail | (intro z; first | fail | exact WQ_0 (by omega) (by omega) | exact WM_a ⟨by fail, by fail⟩ (by fail) | exact WQ_s (q1 (by fail)) ⟨by fail, by fail⟩ (mB_in (by fail) (by fail)).symm hI (by fail) | exact WM_b ⟨by fail, by fail⟩ (by fail) (mB_in (by fail) (by fail)).symm hI (by fail))) (by first | omega | (intro z; first | fail | exact WQ_0 (by fail) (by fail) | exact WM_a ⟨by fail, by fail⟩ (by fail) | exact WQ_s (q1 (by fail)) ⟨by fail, by fail⟩ (mB_in (by fail) (by fail)).symm hI (by fail) | exact WM_b ⟨by fail, by fail⟩ (by fail) (mB_in (by fail) (by fail)).symm hI (by fail))) (by first | omega | (intro z; first | fail | exact WQ_0 (by fail) (by fail) | exact WM_a ⟨by fail, by fail⟩ (by fail) | exact WQ_s (q1 (by fail)) ⟨by fail, by fail⟩ (mB_in (by fail) (by fail)).symm hI (by fail) | exact WM_b ⟨by fail, by fail⟩ (by fail) (mB_in (by fail) (by fail)).symm hI (by fail))) (Nat.lt_succ_self _)) ⟨.inl rfl, .inl rfl, .inl rfl, .inl rfl, trivial⟩
theorem sp_J1_charAt_3b067_15f (L : Nat) (xs : Nat → Int32) (sio : Option Nat) (d : Nat) (dt : Nat → Nat → Int) (hI : InvC dt)  (p2 : Int) (h_p2 : 0 ≤ p2 ∧ p2 ≤ 1)  : GO (am_XX L xs sio) (d + 2) 256 0 [some (.inr (.inr (some 2015))), some (.inl p2)] [] (SH, dt) (fun r w2 => w2 = (SH, dt) ∧ ((∃ v : Int, r = some (.inl v) ∧ (0 ≤ v ∧ v ≤ 65535) ∧ (v = (am_Sby.getD 15 []).getD p2.toNat 0)))) := by
  refine go_toq PM256 (k := 3) (pc' := 3) (L' := [some (.inr (.inr (some 2015))), some (.inl p2)]) (st' := [.inl 2, .inl p2]) (w' := (SH, dt)) rfl ?_
  refine go_callq PM256 PM255 (Q' := _) rfl rfl rfl rfl (sp_J0_checkIndex_df160 L xs sio (d + 0) dt hI  p2 (by first | exact h_p2 | exact bnd h_p2 (by decide) (by decide) | exact ⟨by fail, by fail⟩) 2 ⟨by decide, by decide⟩ (by first | exact True.intro | with_reducible assumption | rfl | omega | trivial)) ?_
  rintro _ _ ⟨rfl, h1⟩
  refine ⟨rfl, ?_⟩
  rcases h1 with ⟨rfl, h1⟩
  refine go_toq PM256 (k := 2) (pc' := 8) (L' := [some (.inr (.inr (some 2015))), some (.inl p2)]) (st' := [.inl p2, .inr (.inr (some 2015))]) (w' := (SH, dt)) rfl ?_
  have r2 := sby_R 15 (p2).toNat
  refine go_smpq PM256 (L' := [some (.inr (.inr (some 2015))), some (.inl p2)]) (st' := [.inl ((am_Sby.getD 15 []).getD (p2).toNat 0)]) (w' := (SH, dt)) rfl rfl (s_bald (n := 2) (f := fun q => (am_Sby.getD 15 []).getD q 0) rfl (by first | exact bndx h_p2 (by decide) (by decide) | exact ⟨by fail, by fail⟩)) ?_
  have r3 : 0 ≤ am_and ((am_Sby.getD 15 []).getD (p2).toNat 0) 255 ∧ am_and ((am_Sby.getD 15 []).getD (p2).toNat 0) 255 ≤ 255 := and_R255
  have r4 := i2c_R (am_and ((am_Sby.getD 15 []).getD (p2).toNat 0) 255)
  refine go_toq PM256 (k := 3) (pc' := 14) (L' := [some (.inr (.inr (some 2015))), some (.inl p2)]) (st' := [.inl (am_i2c (am_and ((am_Sby.getD 15 []).getD (p2).toNat 0) 255))]) (w' := (SH, dt)) rfl ?_
  refine go_retvq PM256 (v := am_i2c (am_and ((am_Sby.getD 15 []).getD (p2).toNat 0) 255)) rfl (decide_eq_true (show 0 ≤ am_i2c (am_and ((am_Sby.getD 15 []).getD (p2).toNat 0) 255) ∧ am_i2c (am_and ((am_Sby.getD 15 []).getD (p2).toNat 0) 255) < 65536 by omega)) ?_
  exact ⟨rfl, ⟨_, rfl, ⟨by omega, by omega⟩, by exact ic_id ⟨by omega, by omega⟩⟩⟩
theorem sp_J0_charAt_5068e_15f (L : Nat) (xs : Nat → Int32) (sio : Option Nat) (d : Nat) (dt : Nat → Nat → Int) (hI : InvC dt)  (p1 : Int) (h_p1 : 0 ≤ p1 ∧ p1 ≤ 1)  : GO (am_XX L xs sio) (d + 3) 250 0 [some (.inr (.inr (some 1015))), some (.inl p1)] [] (SH, dt) (fun r w2 => w2 = (SH, dt) ∧ ((∃ v : Int, r = some (.inl v) ∧ (0 ≤ v ∧ v ≤ 65535) ∧ (v = (am_Sby.getD 15 []).getD p1.toNat 0)))) := by
  refine go_toq PM250 (k := 1) (pc' := 1) (L' := [some (.inr (.inr (some 1015))), some (.inl p1)]) (st' := [.inr (.inr (some 1015))]) (w' := (SH, dt)) rfl ?_
  refine go_callq PM250 PM254 (Q' := _) rfl rfl rfl rfl (sp_J0_isLatin1_aae02_1015 L xs sio (d + 2) dt hI   ) ?_
  rintro _ _ ⟨rfl, h1⟩
  refine ⟨rfl, ?_⟩
  rcases h1 with ⟨rfl, h1⟩
  refine go_toq PM250 (k := 4) (pc' := 12) (L' := [some (.inr (.inr (some 1015))), some (.inl p1)]) (st' := [.inl p1, .inr (.inr (some 2015))]) (w' := (SH, dt)) rfl ?_
  refine go_callq PM250 PM256 (Q' := _) rfl rfl rfl rfl (sp_J1_charAt_3b067_15f L xs sio (d + 0) dt hI  p1 (by first | exact h_p1 | exact bnd h_p1 (by decide) (by decide) | exact ⟨by fail, by fail⟩) ) ?_
  rintro _ _ ⟨rfl, h2⟩
  refine ⟨rfl, ?_⟩
  rcases h2 with ⟨v_h2, rfl, h2r, h2⟩
  refine go_retvq PM250 (v := v_h2) rfl (decide_eq_true (show 0 ≤ v_h2 ∧ v_h2 < 65536 by omega)) ?_
  exact ⟨rfl, ⟨_, rfl, ⟨by omega, by omega⟩, by first | exact True.intro | with_reducible assumption | rfl | fail | trivial⟩⟩
set_option maxRecDepth 20000 in
theorem sp_X6_is_15f (L : Nat) (xs : Nat → Int32) (sio : Option Nat) (d : Nat) (dt : Nat → Nat → Int) (hI : InvC dt)   (h_p0 : dt 79 13 ≤ 500) (h_p1 : dt 79 15 ≤ dt 79 13) (h_p2 : dt 79 13 ≤ dt 79 12) : GO (am_XX L xs sio) (d + 4) 156 0 [some (.inr (.inr (some 79))), some (.inr (.inr (some 1015))), none, none] [] (SH, dt) (fun r w2 => w2 = (SH, dt) ∧ ((∃ v : Int, r = some (.inl v) ∧ (0 ≤ v ∧ v ≤ 1) ∧ (v = wm (am_Sby.getD 15 []) (mB (dt 85) (dt 79 12)) (dt 79 15).toNat (dt 79 13).toNat)))) := by
  have r1 : 0 ≤ dt 79 13 ∧ dt 79 13 ≤ 501 := InvC_get hI 79 13 rfl rfl
  have r2 : 0 ≤ dt 79 15 ∧ dt 79 15 ≤ 500 := InvC_get hI 79 15 rfl rfl
  have r3 : 0 ≤ dt 79 12 ∧ dt 79 12 ≤ 500 := InvC_get hI 79 12 rfl rfl
  have hlen : (((am_Sby.getD 15 []).length : Nat) : Int) = 2 := rfl
  refine go_toq PM156 (k := 6) (pc' := 10) (L' := [some (.inr (.inr (some 79))), some (.inr (.inr (some 1015))), none, none]) (st' := [.inr (.inr (some 1015)), .inl ((dt 79 13) - (dt 79 15))]) (w' := (SH, dt)) rfl ?_
  refine go_callq PM156 PM249 (Q' := _) rfl rfl rfl rfl (sp_J0_length_8abf5_1015 L xs sio (d + 2) dt hI   ) ?_
  rintro _ _ ⟨rfl, h4⟩
  refine ⟨rfl, ?_⟩
  rcases h4 with ⟨rfl, h4⟩
  refine go_ifq PM156 (k := 0) (p1 := 20) (p2 := 16) (L' := [some (.inr (.inr (some 79))), some (.inr (.inr (some 1015))), none, none]) (st' := []) (w' := (SH, dt)) rfl (c_ne (a := (dt 79 13) - (dt 79 15)) (b := 2) ⟨by omega, by omega⟩ ⟨by decide, by decide⟩) (fun c5 => ?_) (fun c5 => ?_)
  · skip
    replace c5 := hid c5
    refine go_toq PM156 (k := 4) (pc' := 24) (L' := [some (.inr (.inr (some 79))), some (.inr (.inr (some 1015))), some (.inl 0), some (.inl 0)]) (st' := []) (w' := (SH, dt)) rfl ?_
    have loop18 : ∀ (k_ : Nat) (l24_2 : Int) (l24_3 : Int) (i13 : 0 ≤ l24_2 ∧ l24_2 ≤ 1) (i14 : 0 ≤ l24_3 ∧ l24_3 ≤ 2) (i15 : l24_2 = 1 → WQ (am_Sby.getD 15 []) (dt 79 13 - dt 79 15) (mB (dt 85) (dt 79 12)) (dt 79 15) l24_3) (i16 : l24_2 = 0 → wm (am_Sby.getD 15 []) (mB (dt 85) (dt 79 12)) (dt 79 15).toNat (dt 79 13).toNat = 0) (i17 : l24_2 = 0 ∨ dt 79 13 - dt 79 15 = 2), (3 - l24_3).toNat < k_ → GO (am_XX L xs sio) (d + 4) 156 24 [some (.inr (.inr (some 79))), some (.inr (.inr (some 1015))), some (.inl l24_2), some (.inl l24_3)] [] (SH, dt) (fun r w2 => w2 = (SH, dt) ∧ ((∃ v : Int, r = some (.inl v) ∧ (0 ≤ v ∧ v ≤ 1) ∧ (v = wm (am_Sby.getD 15 []) (mB (dt 85) (dt 79 12)) (dt 79 15).toNat (dt 79 13).toNat)))) := by
      intro k_
      induction k_ with
      | zero => intro l24_2 l24_3 i13 i14 i15 i16 i17 hm; exact absurd hm (Nat.not_lt_zero _)
      | succ k_ ih_loop18 =>
        intro l24_2 l24_3 i13 i14 i15 i16 i17 hm
        replace i15 := hid i15
        replace i16 := hid i16
        replace i17 := hid i17
        have q1 := i15
        have q2 := i16
        refine go_toq PM156 (k := 2) (pc' := 26) (L' := [some (.inr (.inr (some 79))), some (.inr (.inr (some 1015))), some (.inl l24_2), some (.inl l24_3)]) (st' := [.inr (.inr (some 1015)), .inl l24_3]) (w' := (SH, dt)) rfl ?_
        refine go_callq PM156 PM249 (Q' := _) rfl rfl rfl rfl (sp_J0_length_8abf5_1015 L xs sio (d + 2) dt hI   ) ?_
        rintro _ _ ⟨rfl, h19⟩
        refine ⟨rfl, ?_⟩
        rcases h19 with ⟨rfl, h19⟩
        refine go_ifq PM156 (k := 0) (p1 := 67) (p2 := 32) (L' := [some (.inr (.inr (some 79))), some (.inr (.inr (some 1015))), some (.inl l24_2), some (.inl l24_3)]) (st' := []) (w' := (SH, dt)) rfl (c_ge (a := l24_3) (b := 2) (by first | exact bnd i14 (by decide) (by decide) | exact ⟨by fail, by fail⟩) ⟨by decide, by decide⟩) (fun c20 => ?_) (fun c20 => ?_)
        · skip
          refine go_toq PM156 (k := 1) (pc' := 68) (L' := [some (.inr (.inr (some 79))), some (.inr (.inr (some 1015))), some (.inl l24_2), some (.inl l24_3)]) (st' := [.inl l24_2]) (w' := (SH, dt)) rfl ?_
          refine go_retvq PM156 (v := l24_2) rfl (decide_eq_true (show l24_2 = 0 ∨ l24_2 = 1 by omega)) ?_
          exact ⟨rfl, ⟨_, rfl, ⟨by omega, by omega⟩, by rcases (show l24_2 = 0 ∨ l24_2 = 1 by omega) with z | z <;> first | (rw [q2 z]; exact z) | (rw [WM_1 (q1 z) ⟨by omega, by omega⟩ (by omega)]; exact z)⟩⟩
        · skip
          refine go_ifq PM156 (k := 1) (p1 := 67) (p2 := 36) (L' := [some (.inr (.inr (some 79))), some (.inr (.inr (some 1015))), some (.inl l24_2), some (.inl l24_3)]) (st' := []) (w' := (SH, dt)) rfl (z_eq (a := l24_2) (by first | exact bnd i13 (by decide) (by decide) | exact ⟨by fail, by fail⟩)) (fun c21 => ?_) (fun c21 => ?_)
          · skip
            refine go_toq PM156 (k := 1) (pc' := 68) (L' := [some (.inr (.inr (some 79))), some (.inr (.inr (some 1015))), some (.inl l24_2), some (.inl l24_3)]) (st' := [.inl l24_2]) (w' := (SH, dt)) rfl ?_
            refine go_retvq PM156 (v := l24_2) rfl (decide_eq_true (show l24_2 = 0 ∨ l24_2 = 1 by omega)) ?_
            exact ⟨rfl, ⟨_, rfl, ⟨by omega, by omega⟩, by rcases (show l24_2 = 0 ∨ l24_2 = 1 by omega) with z | z <;> first | (rw [q2 z]; exact z) | (rw [WM_1 (q1 z) ⟨by omega, by omega⟩ (by omega)]; exact z)⟩⟩
          · skip
            replace c21 := hid c21
            refine go_toq PM156 (k := 6) (pc' := 46) (L' := [some (.inr (.inr (some 79))), some (.inr (.inr (some 1015))), some (.inl l24_2), some (.inl l24_3)]) (st' := [.inl ((dt 79 15) + l24_3), .inr (.inr (some 85))]) (w' := (SH, dt)) rfl ?_
            have r22 : 0 ≤ dt 85 (((dt 79 15) + l24_3).toNat) ∧ dt 85 (((dt 79 15) + l24_3).toNat) ≤ 255 := InvC_get hI 85 (((dt 79 15) + l24_3).toNat) rfl rfl
            have u37_ := hid (And.intro (unhid c5) (And.intro (unhid i16) (And.intro (unhid i17) (unhid c21))))
            refine go_smpq PM156 (L' := [some (.inr (.inr (some 79))), some (.inr (.inr (some 1015))), some (.inl l24_2), some (.inl l24_3)]) (st' := [.inl (dt 85 (((dt 79 15) + l24_3).toNat))]) (w' := (SH, dt)) rfl rfl (s_iald (n := 500) (f := dt 85) rfl ⟨by omega, by (have z_ := unhid u37_; omega)⟩) ?_
            refine go_toq PM156 (k := 2) (pc' := 49) (L' := [some (.inr (.inr (some 79))), some (.inr (.inr (some 1015))), some (.inl l24_2), some (.inl l24_3)]) (st' := [.inl l24_3, .inr (.inr (some 1015)), .inl (dt 85 (((dt 79 15) + l24_3).toNat))]) (w' := (SH, dt)) rfl ?_
            refine go_callq PM156 PM250 (Q' := _) rfl rfl rfl rfl (sp_J0_charAt_5068e_15f L xs sio (d + 0) dt hI  l24_3 (by first | exact bnd i14 (by decide) (by decide) | exact bndd i14 c20 (by decide) (by decide) | exact ⟨by fail, by fail⟩) ) ?_
            rintro _ _ ⟨rfl, h23⟩
            refine ⟨rfl, ?_⟩
            rcases h23 with ⟨v_h23, rfl, h23r, h23⟩
            refine go_ifq PM156 (k := 0) (p1 := 59) (p2 := 55) (L' := [some (.inr (.inr (some 79))), some (.inr (.inr (some 1015))), some (.inl l24_2), some (.inl l24_3)]) (st' := []) (w' := (SH, dt)) rfl (c_ne (a := dt 85 (((dt 79 15) + l24_3).toNat)) (b := v_h23) (by first | exact bnd r22 (by decide) (by decide) | exact ⟨by fail, by fail⟩) (by first | exact bnd h23r (by decide) (by decide) | exact ⟨by fail, by fail⟩)) (fun c24 => ?_) (fun c24 => ?_)
            · skip
              replace c24 := hid c24
              refine go_toq PM156 (k := 4) (pc' := 24) (L' := [some (.inr (.inr (some 79))), some (.inr (.inr (some 1015))), some (.inl 0), some (.inl (l24_3 + 1))]) (st' := []) (w' := (SH, dt)) rfl ?_
              have u38_ := hid (And.intro (unhid c5) (And.intro (unhid i16) (And.intro (unhid i17) (And.intro (unhid c21) (unhid c24)))))
              exact GO.le (ih_loop18 0 (l24_3 + 1) (by first | omega | (intro z; first | fail | exact WQ_0 (by fail) (by fail) | exact WM_a ⟨by fail, by fail⟩ (by fail) | exact WQ_s (q1 (by fail)) ⟨by fail, by fail⟩ (mB_in (by fail) (by fail)).symm h23 (by fail) | exact WM_b ⟨by fail, by fail⟩ (by fail) (mB_in (by fail) (by fail)).symm h23 (by fail))) (by first | omega | (intro z; first | fail | exact WQ_0 (by fail) (by fail) | exact WM_a ⟨by fail, by fail⟩ (by fail) | exact WQ_s (q1 (by fail)) ⟨by fail, by fail⟩ (mB_in (by fail) (by fail)).symm h23 (by fail) | exact WM_b ⟨by fail, by fail⟩ (by fail) (mB_in (by fail) (by fail)).symm h23 (by fail))) (by first | omega | (intro z; first | fail | exact WQ_0 (by fail) (by fail) | exact WM_a ⟨by fail, by fail⟩ (by fail) | exact WQ_s (q1 (by fail)) ⟨by fail, by fail⟩ (mB_in (by fail) (by fail)).symm h23 (by fail) | exact WM_b ⟨by fail, by fail⟩ (by fail) (mB_in (by fail) (by fail)).symm h23 (by fail))) (by first | (have z_ := unhid u38_; omega) | (intro z; first | fail | exact WQ_0 (by fail) (by fail) | exact WM_a ⟨by fail, by fail⟩ (by fail) | exact WQ_s (q1 (by fail)) ⟨by fail, by fail⟩ (mB_in (by fail) (by fail)).symm h23 (by fail) | exact WM_b ⟨by fail, by fail⟩ (by fail) (mB_in (by fail) (by fail)).symm h23 (by fail))) (by first | omega | (intro z; first | fail | exact WQ_0 (by fail) (by fail) | exact WM_a ⟨by fail, by fail⟩ (by fail) | exact WQ_s (q1 (by fail)) ⟨by fail, by fail⟩ (mB_in (by fail) (by fail)).symm h23 (by fail) | exact WM_b ⟨by fail, by fail⟩ (by fail) (mB_in (by fail) (by fail)).symm h23 (by fail))) (by omega)) ⟨.inl rfl, .inl rfl, .inl rfl, .inl rfl, trivial⟩
            · skip
              refine go_toq PM156 (k := 5) (pc' := 24) (L' := [some (.inr (.inr (some 79))), some (.inr (.inr (some 1015))), some (.inl 1), some (.inl (l24_3 + 1))]) (st' := []) (w' := (SH, dt)) rfl ?_
              exact GO.le (ih_loop18 1 (l24_3 + 1) (by first | omega | (intro z; first | fail | exact WQ_0 (by fail) (by fail) | exact WM_a ⟨by fail, by fail⟩ (by fail) | exact WQ_s (q1 (by fail)) ⟨by fail, by fail⟩ (mB_in (by fail) (by fail)).symm h23 (by fail) | exact WM_b ⟨by fail, by fail⟩ (by fail) (mB_in (by fail) (by fail)).symm h23 (by fail))) (by first | omega | (intro z; first | fail | exact WQ_0 (by fail) (by fail) | exact WM_a ⟨by fail, by fail⟩ (by fail) | exact WQ_s (q1 (by fail)) ⟨by fail, by fail⟩ (mB_in (by fail) (by fail)).symm h23 (by fail) | exact WM_b ⟨by fail, by fail⟩ (by fail) (mB_in (by fail) (by fail)).symm h23 (by fail))) (by first | (have z_ := unhid u37_; omega) | (intro z; first | fail | exact WQ_0 (by fail) (by fail) | exact WM_a ⟨by fail, by fail⟩ (by fail) | exact WQ_s (q1 (by fail)) ⟨by fail, by fail⟩ (mB_in (by fail) (by fail)).symm h23 (by fail) | exact WM_b ⟨by fail, by fail⟩ (by fail) (mB_in (by fail) (by fail)).symm h23 (by fail))) (by first | omega | (intro z; first | fail | exact WQ_0 (by fail) (by fail) | exact WM_a ⟨by fail, by fail⟩ (by fail) | exact WQ_s (q1 (by fail)) ⟨by fail, by fail⟩ (mB_in (by fail) (by fail)).symm h23 (by fail) | exact WM_b ⟨by fail, by fail⟩ (by fail) (mB_in (by fail) (by fail)).symm h23 (by fail))) (by first | (have z_ := unhid u37_; omega) | (intro z; first | fail | exact WQ_0 (by fail) (by fail) | exact WM_a ⟨by fail, by fail⟩ (by fail) | exact WQ_s (q1 (by fail)) ⟨by fail, by fail⟩ (mB_in (by fail) (by fail)).symm h23 (by fail) | exact WM_b ⟨by fail, by fail⟩ (by fail) (mB_in (by fail) (by fail)).symm h23 (by fail))) (by omega)) ⟨.inl rfl, .inl rfl, .inl rfl, .inl rfl, trivial⟩
    exact GO.le (loop18 _ 0 0 (by first | omega | (intro z; first | fail | exact WQ_0 (by fail) (by fail) | exact WM_a ⟨by fail, by fail⟩ (by fail) | exact WQ_s (q1 (by fail)) ⟨by fail, by fail⟩ (mB_in (by fail) (by fail)).symm hI (by fail) | exact WM_b ⟨by fail, by fail⟩ (by fail) (mB_in (by fail) (by fail)).symm hI (by fail))) (by first | omega | (intro z; first | fail | exact WQ_0 (by fail) (by fail) | exact WM_a ⟨by fail, by fail⟩ (by fail) | exact WQ_s (q1 (by fail)) ⟨by fail, by fail⟩ (mB_in (by fail) (by fail)).symm hI (by fail) | exact WM_b ⟨by fail, by fail⟩ (by fail) (mB_in (by fail) (by fail)).symm hI (by fail))) (by first | omega | (intro z; first | fail | exact WQ_0 (by fail) (by fail) | exact WM_a ⟨by fail, by fail⟩ (by fail) | exact WQ_s (q1 (by fail)) ⟨by fail, by fail⟩ (mB_in (by fail) (by fail)).symm hI (by fail) | exact WM_b ⟨by fail, by fail⟩ (by fail) (mB_in (by fail) (by fail)).symm hI (by fail))) (by first | fail | (intro z; first | fail | exact WQ_0 (by fail) (by fail) | exact WM_a ⟨by omega, by omega⟩ (by (have z0_ := unhid c5; omega)) | exact WQ_s (q1 (by fail)) ⟨by fail, by fail⟩ (mB_in (by fail) (by fail)).symm hI (by fail) | exact WM_b ⟨by fail, by fail⟩ (by fail) (mB_in (by fail) (by fail)).symm hI (by fail))) (by first | omega | (intro z; first | fail | exact WQ_0 (by fail) (by fail) | exact WM_a ⟨by fail, by fail⟩ (by fail) | exact WQ_s (q1 (by fail)) ⟨by fail, by fail⟩ (mB_in (by fail) (by fail)).symm hI (by fail) | exact WM_b ⟨by fail, by fail⟩ (by fail) (mB_in (by fail) (by fail)).symm hI (by fail))) (Nat.lt_succ_self _)) ⟨.inl rfl, .inl rfl, .inl rfl, .inl rfl, trivial⟩
  · skip
    refine go_toq PM156 (k := 5) (pc' := 24) (L' := [some (.inr (.inr (some 79))), some (.inr (.inr (some 1015))), some (.inl 1), some (.inl 0)]) (st' := []) (w' := (SH, dt)) rfl ?_
    have loop37 : ∀ (k_ : Nat) (l24_2 : Int) (l24_3 : Int) (i32 : 0 ≤ l24_2 ∧ l24_2 ≤ 1) (i33 : 0 ≤ l24_3 ∧ l24_3 ≤ 2) (i34 : l24_2 = 1 → WQ (am_Sby.getD 15 []) (dt 79 13 - dt 79 15) (mB (dt 85) (dt 79 12)) (dt 79 15) l24_3) (i35 : l24_2 = 0 → wm (am_Sby.getD 15 []) (mB (dt 85) (dt 79 12)) (dt 79 15).toNat (dt 79 13).toNat = 0) (i36 : l24_2 = 0 ∨ dt 79 13 - dt 79 15 = 2), (3 - l24_3).toNat < k_ → GO (am_XX L xs sio) (d + 4) 156 24 [some (.inr (.inr (some 79))), some (.inr (.inr (some 1015))), some (.inl l24_2), some (.inl l24_3)] [] (SH, dt) (fun r w2 => w2 = (SH, dt) ∧ ((∃ v : Int, r = some (.inl v) ∧ (0 ≤ v ∧ v ≤ 1) ∧ (v = wm (am_Sby.getD 15 []) (mB (dt 85) (dt 79 12)) (dt 79 15).toNat (dt 79 13).toNat)))) := by
      intro k_
      induction k_ with
      | zero => intro l24_2 l24_3 i32 i33 i34 i35 i36 hm; exact absurd hm (Nat.not_lt_zero _)
      | succ k_ ih_loop37 =>
        intro l24_2 l24_3 i32 i33 i34 i35 i36 hm
        replace i34 := hid i34
        replace i35 := hid i35
        replace i36 := hid i36
        have q1 := i34
        have q2 := i35
        refine go_toq PM156 (k := 2) (pc' := 26) (L' := [some (.inr (.inr (some 79))), some (.inr (.inr (some 1015))), some (.inl l24_2), some (.inl l24_3)]) (st' := [.inr (.inr (some 1015)), .inl l24_3]) (w' := (SH, dt)) rfl ?_
        refine go_callq PM156 PM249 (Q' := _) rfl rfl rfl rfl (sp_J0_length_8abf5_1015 L xs sio (d + 2) dt hI   ) ?_
        rintro _ _ ⟨rfl, h38⟩
        refine ⟨rfl, ?_⟩
        rcases h38 with ⟨rfl, h38⟩
        refine go_ifq PM156 (k := 0) (p1 := 67) (p2 := 32) (L' := [some (.inr (.inr (some 79))), some (.inr (.inr (some 1015))), some (.inl l24_2), some (.inl l24_3)]) (st' := []) (w' := (SH, dt)) rfl (c_ge (a := l24_3) (b := 2) (by first | exact bnd i33 (by decide) (by decide) | exact ⟨by fail, by fail⟩) ⟨by decide, by decide⟩) (fun c39 => ?_) (fun c39 => ?_)
        · skip
          refine go_toq PM156 (k := 1) (pc' := 68) (L' := [some (.inr (.inr (some 79))), some (.inr (.inr (some 1015))), some (.inl l24_2), some (.inl l24_3)]) (st' := [.inl l24_2]) (w' := (SH, dt)) rfl ?_
          refine go_retvq PM156 (v := l24_2) rfl (decide_eq_true (show l24_2 = 0 ∨ l24_2 = 1 by omega)) ?_
          exact ⟨rfl, ⟨_, rfl, ⟨by omega, by omega⟩, by rcases (show l24_2 = 0 ∨ l24_2 = 1 by omega) with z | z <;> first | (rw [q2 z]; exact z) | (rw [WM_1 (q1 z) ⟨by omega, by omega⟩ (by omega)]; exact z)⟩⟩
        · skip
          refine go_ifq PM156 (k := 1) (p1 := 67) (p2 := 36) (L' := [some (.inr (.inr (some 79))), some (.inr (.inr (some 1015))), some (.inl l24_2), some (.inl l24_3)]) (st' := []) (w' := (SH, dt)) rfl (z_eq (a := l24_2) (by first | exact bnd i32 (by decide) (by decide) | exact ⟨by fail, by fail⟩)) (fun c40 => ?_) (fun c40 => ?_)
          · skip
            refine go_toq PM156 (k := 1) (pc' := 68) (L' := [some (.inr (.inr (some 79))), some (.inr (.inr (some 1015))), some (.inl l24_2), some (.inl l24_3)]) (st' := [.inl l24_2]) (w' := (SH, dt)) rfl ?_
            refine go_retvq PM156 (v := l24_2) rfl (decide_eq_true (show l24_2 = 0 ∨ l24_2 = 1 by omega)) ?_
            exact ⟨rfl, ⟨_, rfl, ⟨by omega, by omega⟩, by rcases (show l24_2 = 0 ∨ l24_2 = 1 by omega) with z | z <;> first | (rw [q2 z]; exact z) | (rw [WM_1 (q1 z) ⟨by omega, by omega⟩ (by omega)]; exact z)⟩⟩
          · skip
            replace c40 := hid c40
            refine go_toq PM156 (k := 6) (pc' := 46) (L' := [some (.inr (.inr (some 79))), some (.inr (.inr (some 1015))), some (.inl l24_2), some (.inl l24_3)]) (st' := [.inl ((dt 79 15) + l24_3), .inr (.inr (some 85))]) (w' := (SH, dt)) rfl ?_
            have r41 : 0 ≤ dt 85 (((dt 79 15) + l24_3).toNat) ∧ dt 85 (((dt 79 15) + l24_3).toNat) ≤ 255 := InvC_get hI 85 (((dt 79 15) + l24_3).toNat) rfl rfl
            refine go_smpq PM156 (L' := [some (.inr (.inr (some 79))), some (.inr (.inr (some 1015))), some (.inl l24_2), some (.inl l24_3)]) (st' := [.inl (dt 85 (((dt 79 15) + l24_3).toNat))]) (w' := (SH, dt)) rfl rfl (s_iald (n := 500) (f := dt 85) rfl ⟨by omega, by omega⟩) ?_
            refine go_toq PM156 (k := 2) (pc' := 49) (L' := [some (.inr (.inr (some 79))), some (.inr (.inr (some 1015))), some (.inl l24_2), some (.inl l24_3)]) (st' := [.inl l24_3, .inr (.inr (some 1015)), .inl (dt 85 (((dt 79 15) + l24_3).toNat))]) (w' := (SH, dt)) rfl ?_
            refine go_callq PM156 PM250 (Q' := _) rfl rfl rfl rfl (sp_J0_charAt_5068e_15f L xs sio (d + 0) dt hI  l24_3 (by first | exact bnd i33 (by decide) (by decide) | exact bndd i33 c39 (by decide) (by decide) | exact ⟨by fail, by fail⟩) ) ?_
            rintro _ _ ⟨rfl, h42⟩
            refine ⟨rfl, ?_⟩
            rcases h42 with ⟨v_h42, rfl, h42r, h42⟩
            refine go_ifq PM156 (k := 0) (p1 := 59) (p2 := 55) (L' := [some (.inr (.inr (some 79))), some (.inr (.inr (some 1015))), some (.inl l24_2), some (.inl l24_3)]) (st' := []) (w' := (SH, dt)) rfl (c_ne (a := dt 85 (((dt 79 15) + l24_3).toNat)) (b := v_h42) (by first | exact bnd r41 (by decide) (by decide) | exact ⟨by fail, by fail⟩) (by first | exact bnd h42r (by decide) (by decide) | exact ⟨by fail, by fail⟩)) (fun c43 => ?_) (fun c43 => ?_)
            · skip
              replace c43 := hid c43
              refine go_toq PM156 (k := 4) (pc' := 24) (L' := [some (.inr (.inr (some 79))), some (.inr (.inr (some 1015))), some (.inl 0), some (.inl (l24_3 + 1))]) (st' := []) (w' := (SH, dt)) rfl ?_
              have u39_ := hid (And.intro (unhid i35) (And.intro (unhid i36) (And.intro (unhid c40) (unhid c43))))
              exact GO.le (ih_loop37 0 (l24_3 + 1) (by first | omega | (intro z; first | fail | exact WQ_0 (by fail) (by fail) | exact WM_a ⟨by fail, by fail⟩ (by fail) | exact WQ_s (q1 (by fail)) ⟨by fail, by fail⟩ (mB_in (by fail) (by fail)).symm h42 (by fail) | exact WM_b ⟨by fail, by fail⟩ (by fail) (mB_in (by fail) (by fail)).symm h42 (by fail))) (by first | omega | (intro z; first | fail | exact WQ_0 (by fail) (by fail) | exact WM_a ⟨by fail, by fail⟩ (by fail) | exact WQ_s (q1 (by fail)) ⟨by fail, by fail⟩ (mB_in (by fail) (by fail)).symm h42 (by fail) | exact WM_b ⟨by fail, by fail⟩ (by fail) (mB_in (by fail) (by fail)).symm h42 (by fail))) (by first | omega | (intro z; first | fail | exact WQ_0 (by fail) (by fail) | exact WM_a ⟨by fail, by fail⟩ (by fail) | exact WQ_s (q1 (by fail)) ⟨by fail, by fail⟩ (mB_in (by fail) (by fail)).symm h42 (by fail) | exact WM_b ⟨by fail, by fail⟩ (by fail) (mB_in (by fail) (by fail)).symm h42 (by fail))) (by first | fail | (intro z; first | fail | exact WQ_0 (by fail) (by fail) | exact WM_a ⟨by omega, by omega⟩ (by fail) | exact WQ_s (q1 (by (have z_ := unhid u39_; omega))) ⟨by omega, by omega⟩ (mB_in (by omega) (by omega)).symm h42 (by fail) | exact WM_b ⟨by omega, by omega⟩ (by omega) (mB_in (by omega) (by omega)).symm h42 (by (have z_ := unhid u39_; omega)))) (by first | omega | (intro z; first | fail | exact WQ_0 (by fail) (by fail) | exact WM_a ⟨by fail, by fail⟩ (by fail) | exact WQ_s (q1 (by fail)) ⟨by fail, by fail⟩ (mB_in (by fail) (by fail)).symm h42 (by fail) | exact WM_b ⟨by fail, by fail⟩ (by fail) (mB_in (by fail) (by fail)).symm h42 (by fail))) (by omega)) ⟨.inl rfl, .inl rfl, .inl rfl, .inl rfl, trivial⟩
            · skip
              refine go_toq PM156 (k := 5) (pc' := 24) (L' := [some (.inr (.inr (some 79))), some (.inr (.inr (some 1015))), some (.inl 1), some (.inl (l24_3 + 1))]) (st' := []) (w' := (SH, dt)) rfl ?_
              exact GO.le (ih_loop37 1 (l24_3 + 1) (by first | omega | (intro z; first | fail | exact WQ_0 (by fail) (by fail) | exact WM_a ⟨by fail, by fail⟩ (by fail) | exact WQ_s (q1 (by fail)) ⟨by fail, by fail⟩ (mB_in (by fail) (by fail)).symm h42 (by fail) | exact WM_b ⟨by fail, by fail⟩ (by fail) (mB_in (by fail) (by fail)).symm h42 (by fail))) (by first | omega | (intro z; first | fail | exact WQ_0 (by fail) (by fail) | exact WM_a ⟨by fail, by fail⟩ (by fail) | exact WQ_s (q1 (by fail)) ⟨by fail, by fail⟩ (mB_in (by fail) (by fail)).symm h42 (by fail) | exact WM_b ⟨by fail, by fail⟩ (by fail) (mB_in (by fail) (by fail)).symm h42 (by fail))) (by first | fail | (intro z; first | fail | exact WQ_0 (by omega) (by fail) | exact WM_a ⟨by fail, by fail⟩ (by fail) | exact WQ_s (q1 (by (have z0_ := unhid i35; have z1_ := unhid i36; have z2_ := unhid c40; omega))) ⟨by omega, by omega⟩ (mB_in (by omega) (by omega)).symm h42 (by omega) | exact WM_b ⟨by fail, by fail⟩ (by fail) (mB_in (by fail) (by fail)).symm h42 (by fail))) (by first | omega | (intro z; first | fail | exact WQ_0 (by fail) (by fail) | exact WM_a ⟨by fail, by fail⟩ (by fail) | exact WQ_s (q1 (by fail)) ⟨by fail, by fail⟩ (mB_in (by fail) (by fail)).symm h42 (by fail) | exact WM_b ⟨by fail, by fail⟩ (by fail) (mB_in (by fail) (by fail)).symm h42 (by fail))) (by first | omega | (intro z; first | fail | exact WQ_0 (by fail) (by fail) | exact WM_a ⟨by fail, by fail⟩ (by fail) | exact WQ_s (q1 (by fail)) ⟨by fail, by fail⟩ (mB_in (by fail) (by fail)).symm h42 (by fail) | exact WM_b ⟨by fail, by fail⟩ (by fail) (mB_in (by fail) (by fail)).symm h42 (by fail))) (by omega)) ⟨.inl rfl, .inl rfl, .inl rfl, .inl rfl, trivial⟩
    exact GO.le (loop37 _ 1 0 (by first | omega | (intro z; first | fail | exact WQ_0 (by fail) (by fail) | exact WM_a ⟨by fail, by fail⟩ (by fail) | exact WQ_s (q1 (by fail)) ⟨by fail, by fail⟩ (mB_in (by fail) (by fail)).symm hI (by fail) | exact WM_b ⟨by fail, by fail⟩ (by fail) (mB_in (by fail) (by fail)).symm hI (by fail))) (by first | omega | (intro z; first | fail | exact WQ_0 (by fail) (by fail) | exact WM_a ⟨by fail, by fail⟩ (by fail) | exact WQ_s (q1 (by fail)) ⟨by fail, by fail⟩ (mB_in (by fail) (by fail)).symm hI (by fail) | exact WM_b ⟨by fail, by fail⟩ (by fail) (mB_in (by fail) (by fail)).symm hI (by fail))) (by first | fail | (intro z; first | fail | exact WQ_0 (by omega) (by omega) | exact WM_a ⟨by fail, by fail⟩ (by fail) | exact WQ_s (q1 (by fail)) ⟨by fail, by fail⟩ (mB_in (by fail) (by fail)).symm hI (by fail) | exact WM_b ⟨by fail, by fail⟩ (by fail) (mB_in (by fail) (by fail)).symm hI (by fail))) (by first | omega | (intro z; first | fail | exact WQ_0 (by fail) (by fail) | exact WM_a ⟨by fail, by fail⟩ (by fail) | exact WQ_s (q1 (by fail)) ⟨by fail, by fail⟩ (mB_in (by fail) (by fail)).symm hI (by fail) | exact WM_b ⟨by fail, by fail⟩ (by fail) (mB_in (by fail) (by fail)).symm hI (by fail))) (by first | omega | (intro z; first | fail | exact WQ_0 (by fail) (by fail) | exact WM_a ⟨by fail, by fail⟩ (by fail) | exact WQ_s (q1 (by fail)) ⟨by fail, by fail⟩ (mB_in (by fail) (by fail)).symm hI (by fail) | exact WM_b ⟨by fail, by fail⟩ (by fail) (mB_in (by fail) (by fail)).symm hI (by fail))) (Nat.lt_succ_self _)) ⟨.inl rfl, .inl rfl, .inl rfl, .inl rfl, trivial⟩
theorem sp_J1_charAt_3b067_16f (L : Nat) (xs : Nat → Int32) (sio : Option Nat) (d : Nat) (dt : Nat → Nat → Int) (hI : InvC dt)  (p2 : Int) (h_p2 : 0 ≤ p2 ∧ p2 ≤ 2)  : GO (am_XX L xs sio) (d + 2) 256 0 [some (.inr (.inr (some 2016))), some (.inl p2)] [] (SH, dt) (fun r w2 => w2 = (SH, dt) ∧ ((∃ v : Int, r = some (.inl v) ∧ (0 ≤ v ∧ v ≤ 65535) ∧ (v = (am_Sby.getD 16 []).getD p2.toNat 0)))) := by
  refine go_toq PM256 (k := 3) (pc' := 3) (L' := [some (.inr (.inr (some 2016))), some (.inl p2)]) (st' := [.inl 3, .inl p2]) (w' := (SH, dt)) rfl ?_
  refine go_callq PM256 PM255 (Q' := _) rfl rfl rfl rfl (sp_J0_checkIndex_df160 L xs sio (d + 0) dt hI  p2 (by first | exact h_p2 | exact bnd h_p2 (by decide) (by decide) | exact ⟨by fail, by fail⟩) 3 ⟨by decide, by decide⟩ (by first | exact True.intro | with_reducible assumption | rfl | omega | trivial)) ?_
  rintro _ _ ⟨rfl, h1⟩
  refine ⟨rfl, ?_⟩
  rcases h1 with ⟨rfl, h1⟩
  refine go_toq PM256 (k := 2) (pc' := 8) (L' := [some (.inr (.inr (some 2016))), some (.inl p2)]) (st' := [.inl p2, .inr (.inr (some 2016))]) (w' := (SH, dt)) rfl ?_
  have r2 := sby_R 16 (p2).toNat
  refine go_smpq PM256 (L' := [some (.inr (.inr (some 2016))), some (.inl p2)]) (st' := [.inl ((am_Sby.getD 16 []).getD (p2).toNat 0)]) (w' := (SH, dt)) rfl rfl (s_bald (n := 3) (f := fun q => (am_Sby.getD 16 []).getD q 0) rfl (by first | exact bndx h_p2 (by decide) (by decide) | exact ⟨by fail, by fail⟩)) ?_
  have r3 : 0 ≤ am_and ((am_Sby.getD 16 []).getD (p2).toNat 0) 255 ∧ am_and ((am_Sby.getD 16 []).getD (p2).toNat 0) 255 ≤ 255 := and_R255
  have r4 := i2c_R (am_and ((am_Sby.getD 16 []).getD (p2).toNat 0) 255)
  refine go_toq PM256 (k := 3) (pc' := 14) (L' := [some (.inr (.inr (some 2016))), some (.inl p2)]) (st' := [.inl (am_i2c (am_and ((am_Sby.getD 16 []).getD (p2).toNat 0) 255))]) (w' := (SH, dt)) rfl ?_
  refine go_retvq PM256 (v := am_i2c (am_and ((am_Sby.getD 16 []).getD (p2).toNat 0) 255)) rfl (decide_eq_true (show 0 ≤ am_i2c (am_and ((am_Sby.getD 16 []).getD (p2).toNat 0) 255) ∧ am_i2c (am_and ((am_Sby.getD 16 []).getD (p2).toNat 0) 255) < 65536 by omega)) ?_
  exact ⟨rfl, ⟨_, rfl, ⟨by omega, by omega⟩, by exact ic_id ⟨by omega, by omega⟩⟩⟩
theorem sp_J0_charAt_5068e_16f (L : Nat) (xs : Nat → Int32) (sio : Option Nat) (d : Nat) (dt : Nat → Nat → Int) (hI : InvC dt)  (p1 : Int) (h_p1 : 0 ≤ p1 ∧ p1 ≤ 2)  : GO (am_XX L xs sio) (d + 3) 250 0 [some (.inr (.inr (some 1016))), some (.inl p1)] [] (SH, dt) (fun r w2 => w2 = (SH, dt) ∧ ((∃ v : Int, r = some (.inl v) ∧ (0 ≤ v ∧ v ≤ 65535) ∧ (v = (am_Sby.getD 16 []).getD p1.toNat 0)))) := by
  refine go_toq PM250 (k := 1) (pc' := 1) (L' := [some (.inr (.inr (some 1016))), some (.inl p1)]) (st' := [.inr (.inr (some 1016))]) (w' := (SH, dt)) rfl ?_
  refine go_callq PM250 PM254 (Q' := _) rfl rfl rfl rfl (sp_J0_isLatin1_aae02_1016 L xs sio (d + 2) dt hI   ) ?_
  rintro _ _ ⟨rfl, h1⟩
  refine ⟨rfl, ?_⟩
  rcases h1 with ⟨rfl, h1⟩
  refine go_toq PM250 (k := 4) (pc' := 12) (L' := [some (.inr (.inr (some 1016))), some (.inl p1)]) (st' := [.inl p1, .inr (.inr (some 2016))]) (w' := (SH, dt)) rfl ?_
  refine go_callq PM250 PM256 (Q' := _) rfl rfl rfl rfl (sp_J1_charAt_3b067_16f L xs sio (d + 0) dt hI  p1 (by first | exact h_p1 | exact bnd h_p1 (by decide) (by decide) | exact ⟨by fail, by fail⟩) ) ?_
  rintro _ _ ⟨rfl, h2⟩
  refine ⟨rfl, ?_⟩
  rcases h2 with ⟨v_h2, rfl, h2r, h2⟩
  refine go_retvq PM250 (v := v_h2) rfl (decide_eq_true (show 0 ≤ v_h2 ∧ v_h2 < 65536 by omega)) ?_
  exact ⟨rfl, ⟨_, rfl, ⟨by omega, by omega⟩, by first | exact True.intro | with_reducible assumption | rfl | fail | trivial⟩⟩
set_option maxRecDepth 20000 in
theorem sp_X6_is_16f (L : Nat) (xs : Nat → Int32) (sio : Option Nat) (d : Nat) (dt : Nat → Nat → Int) (hI : InvC dt)   (h_p0 : dt 79 13 ≤ 500) (h_p1 : dt 79 15 ≤ dt 79 13) (h_p2 : dt 79 13 ≤ dt 79 12) : GO (am_XX L xs sio) (d + 4) 156 0 [some (.inr (.inr (some 79))), some (.inr (.inr (some 1016))), none, none] [] (SH, dt) (fun r w2 => w2 = (SH, dt) ∧ ((∃ v : Int, r = some (.inl v) ∧ (0 ≤ v ∧ v ≤ 1) ∧ (v = wm (am_Sby.getD 16 []) (mB (dt 85) (dt 79 12)) (dt 79 15).toNat (dt 79 13).toNat)))) := by
  have r1 : 0 ≤ dt 79 13 ∧ dt 79 13 ≤ 501 := InvC_get hI 79 13 rfl rfl
  have r2 : 0 ≤ dt 79 15 ∧ dt 79 15 ≤ 500 := InvC_get hI 79 15 rfl rfl
  have r3 : 0 ≤ dt 79 12 ∧ dt 79 12 ≤ 500 := InvC_get hI 79 12 rfl rfl
  have hlen : (((am_Sby.getD 16 []).length : Nat) : Int) = 3 := rfl
  refine go_toq PM156 (k := 6) (pc' := 10) (L' := [some (.inr (.inr (some 79))), some (.inr (.inr (some 1016))), none, none]) (st' := [.inr (.inr (some 1016)), .inl ((dt 79 13) - (dt 79 15))]) (w' := (SH, dt)) rfl ?_
  refine go_callq PM156 PM249 (Q' := _) rfl rfl rfl rfl (sp_J0_length_8abf5_1016 L xs sio (d + 2) dt hI   ) ?_
  rintro _ _ ⟨rfl, h4⟩
  refine ⟨rfl, ?_⟩
  rcases h4 with ⟨rfl, h4⟩
  refine go_ifq PM156 (k := 0) (p1 := 20) (p2 := 16) (L' := [some (.inr (.inr (some 79))), some (.inr (.inr (some 1016))), none, none]) (st' := []) (w' := (SH, dt)) rfl (c_ne (a := (dt 79 13) - (dt 79 15)) (b := 3) ⟨by omega, by omega⟩ ⟨by decide, by decide⟩) (fun c5 => ?_) (fun c5 => ?_)
  · skip
    replace c5 := hid c5
    refine go_toq PM156 (k := 4) (pc' := 24) (L' := [some (.inr (.inr (some 79))), some (.inr (.inr (some 1016))), some (.inl 0), some (.inl 0)]) (st' := []) (w' := (SH, dt)) rfl ?_
    have loop18 : ∀ (k_ : Nat) (l24_2 : Int) (l24_3 : Int) (i13 : 0 ≤ l24_2 ∧ l24_2 ≤ 1) (i14 : 0 ≤ l24_3 ∧ l24_3 ≤ 3) (i15 : l24_2 = 1 → WQ (am_Sby.getD 16 []) (dt 79 13 - dt 79 15) (mB (dt 85) (dt 79 12)) (dt 79 15) l24_3) (i16 : l24_2 = 0 → wm (am_Sby.getD 16 []) (mB (dt 85) (dt 79 12)) (dt 79 15).toNat (dt 79 13).toNat = 0) (i17 : l24_2 = 0 ∨ dt 79 13 - dt 79 15 = 3), (4 - l24_3).toNat < k_ → GO (am_XX L xs sio) (d + 4) 156 24 [some (.inr (.inr (some 79))), some (.inr (.inr (some 1016))), some (.inl l24_2), some (.inl l24_3)] [] (SH, dt) (fun r w2 => w2 = (SH, dt) ∧ ((∃ v : Int, r = some (.inl v) ∧ (0 ≤ v ∧ v ≤ 1) ∧ (v = wm (am_Sby.getD 16 []) (mB (dt 85) (dt 79 12)) (dt 79 15).toNat (dt 79 13).toNat)))) := by
      intro k_
      induction k_ with
      | zero => intro l24_2 l24_3 i13 i14 i15 i16 i17 hm; exact absurd hm (Nat.not_lt_zero _)
      | succ k_ ih_loop18 =>
        intro l24_2 l24_3 i13 i14 i15 i16 i17 hm
        replace i15 := hid i15
        replace i16 := hid i16
        replace i17 := hid i17
        have q1 := i15
        have q2 := i16
        refine go_toq PM156 (k := 2) (pc' := 26) (L' := [some (.inr (.inr (some 79))), some (.inr (.inr (some 1016))), some (.inl l24_2), some (.inl l24_3)]) (st' := [.inr (.inr (some 1016)), .inl l24_3]) (w' := (SH, dt)) rfl ?_
        refine go_callq PM156 PM249 (Q' := _) rfl rfl rfl rfl (sp_J0_length_8abf5_1016 L xs sio (d + 2) dt hI   ) ?_
        rintro _ _ ⟨rfl, h19⟩
        refine ⟨rfl, ?_⟩
        rcases h19 with ⟨rfl, h19⟩
        refine go_ifq PM156 (k := 0) (p1 := 67) (p2 := 32) (L' := [some (.inr (.inr (some 79))), some (.inr (.inr (some 1016))), some (.inl l24_2), some (.inl l24_3)]) (st' := []) (w' := (SH, dt)) rfl (c_ge (a := l24_3) (b := 3) (by first | exact bnd i14 (by decide) (by decide) | exact ⟨by fail, by fail⟩) ⟨by decide, by decide⟩) (fun c20 => ?_) (fun c20 => ?_)
        · skip
          refine go_toq PM156 (k := 1) (pc' := 68) (L' := [some (.inr (.inr (some 79))), some (.inr (.inr (some 1016))), some (.inl l24_2), some (.inl l24_3)]) (st' := [.inl l24_2]) (w' := (SH, dt)) rfl ?_
          refine go_retvq PM156 (v := l24_2) rfl (decide_eq_true (show l24_2 = 0 ∨ l24_2 = 1 by omega)) ?_
          exact ⟨rfl, ⟨_, rfl, ⟨by omega, by omega⟩, by rcases (show l24_2 = 0 ∨ l24_2 = 1 by omega) with z | z <;> first | (rw [q2 z]; exact z) | (rw [WM_1 (q1 z) ⟨by omega, by omega⟩ (by omega)]; exact z)⟩⟩
        · skip
          refine go_ifq PM156 (k := 1) (p1 := 67) (p2 := 36) (L' := [some (.inr (.inr (some 79))), some (.inr (.inr (some 1016))), some (.inl l24_2), some (.inl l24_3)]) (st' := []) (w' := (SH, dt)) rfl (z_eq (a := l24_2) (by first | exact bnd i13 (by decide) (by decide) | exact ⟨by fail, by fail⟩)) (fun c21 => ?_) (fun c21 => ?_)
          · skip
            refine go_toq PM156 (k := 1) (pc' := 68) (L' := [some (.inr (.inr (some 79))), some (.inr (.inr (some 1016))), some (.inl l24_2), some (.inl l24_3)]) (st' := [.inl l24_2]) (w' := (SH, dt)) rfl ?_
            refine go_retvq PM156 (v := l24_2) rfl (decide_eq_true (show l24_2 = 0 ∨ l24_2 = 1 by omega)) ?_
            exact ⟨rfl, ⟨_, rfl, ⟨by omega, by omega⟩, by rcases (show l24_2 = 0 ∨ l24_2 = 1 by omega) with z | z <;> first | (rw [q2 z]; exact z) | (rw [WM_1 (q1 z) ⟨by omega, by omega⟩ (by omega)]; exact z)⟩⟩
          · skip
            replace c21 := hid c21
            refine go_toq PM156 (k := 6) (pc' := 46) (L' := [some (.inr (.inr (some 79))), some (.inr (.inr (some 1016))), some (.inl l24_2), some (.inl l24_3)]) (st' := [.inl ((dt 79 15) + l24_3), .inr (.inr (some 85))]) (w' := (SH, dt)) rfl ?_
            have r22 : 0 ≤ dt 85 (((dt 79 15) + l24_3).toNat) ∧ dt 85 (((dt 79 15) + l24_3).toNat) ≤ 255 := InvC_get hI 85 (((dt 79 15) + l24_3).toNat) rfl rfl
            have u40_ := hid (And.intro (unhid c5) (And.intro (unhid i16) (And.intro (unhid i17) (unhid c21))))
            refine go_smpq PM156 (L' := [some (.inr (.inr (some 79))), some (.inr (.inr (some 1016))), some (.inl l24_2), some (.inl l24_3)]) (st' := [.inl (dt 85 (((dt 79 15) + l24_3).toNat))]) (w' := (SH, dt)) rfl rfl (s_iald (n := 500) (f := dt 85) rfl ⟨by omega, by (have z_ := unhid u40_; omega)⟩) ?_
            refine go_toq PM156 (k := 2) (pc' := 49) (L' := [some (.inr (.inr (some 79))), some (.inr (.inr (some 1016))), some (.inl l24_2), some (.inl l24_3)]) (st' := [.inl l24_3, .inr (.inr (some 1016)), .inl (dt 85 (((dt 79 15) + l24_3).toNat))]) (w' := (SH, dt)) rfl ?_
            refine go_callq PM156 PM250 (Q' := _) rfl rfl rfl rfl (sp_J0_charAt_5068e_16f L xs sio (d + 0) dt hI  l24_3 (by first | exact bnd i14 (by decide) (by decide) | exact bndd i14 c20 (by decide) (by decide) | exact ⟨by fail, by fail⟩) ) ?_
            rintro _ _ ⟨rfl, h23⟩
            refine ⟨rfl, ?_⟩
            rcases h23 with ⟨v_h23, rfl, h23r, h23⟩
            refine go_ifq PM156 (k := 0) (p1 := 59) (p2 := 55) (L' := [some (.inr (.inr (some 79))), some (.inr (.inr (some 1016))), some (.inl l24_2), some (.inl l24_3)]) (st' := []) (w' := (SH, dt)) rfl (c_ne (a := dt 85 (((dt 79 15) + l24_3).toNat)) (b := v_h23) (by first | exact bnd r22 (by decide) (by decide) | exact ⟨by fail, by fail⟩) (by first | exact bnd h23r (by decide) (by decide) | exact ⟨by fail, by fail⟩)) (fun c24 => ?_) (fun c24 => ?_)
            · skip
              replace c24 := hid c24
              refine go_toq PM156 (k := 4) (pc' := 24) (L' := [some (.inr (.inr (some 79))), some (.inr (.inr (some 1016))), some (.inl 0), some (.inl (l24_3 + 1))]) (st' := []) (w' := (SH, dt)) rfl ?_
              have u41_ := hid (And.intro (unhid c5) (And.intro (unhid i16) (And.intro (unhid i17) (And.intro (unhid c21) (unhid c24)))))
              exact GO.le (ih_loop18 0 (l24_3 + 1) (by first | omega | (intro z; first | fail | exact WQ_0 (by fail) (by fail) | exact WM_a ⟨by fail, by fail⟩ (by fail) | exact WQ_s (q1 (by fail)) ⟨by fail, by fail⟩ (mB_in (by fail) (by fail)).symm h23 (by fail) | exact WM_b ⟨by fail, by fail⟩ (by fail) (mB_in (by fail) (by fail)).symm h23 (by fail))) (by first | omega | (intro z; first | fail | exact WQ_0 (by fail) (by fail) | exact WM_a ⟨by fail, by fail⟩ (by fail) | exact WQ_s (q1 (by fail)) ⟨by fail, by fail⟩ (mB_in (by fail) (by fail)).symm h23 (by fail) | exact WM_b ⟨by fail, by fail⟩ (by fail) (mB_in (by fail) (by fail)).symm h23 (by fail))) (by first | omega | (intro z; first | fail | exact WQ_0 (by fail) (by fail) | exact WM_a ⟨by fail, by fail⟩ (by fail) | exact WQ_s (q1 (by fail)) ⟨by fail, by fail⟩ (mB_in (by fail) (by fail)).symm h23 (by fail) | exact WM_b ⟨by fail, by fail⟩ (by fail) (mB_in (by fail) (by fail)).symm h23 (by fail))) (by first | (have z_ := unhid u41_; omega) | (intro z; first | fail | exact WQ_0 (by fail) (by fail) | exact WM_a ⟨by fail, by fail⟩ (by fail) | exact WQ_s (q1 (by fail)) ⟨by fail, by fail⟩ (mB_in (by fail) (by fail)).symm h23 (by fail) | exact WM_b ⟨by fail, by fail⟩ (by fail) (mB_in (by fail) (by fail)).symm h23 (by fail))) (by first | omega | (intro z; first | fail | exact WQ_0 (by fail) (by fail) | exact WM_a ⟨by fail, by fail⟩ (by fail) | exact WQ_s (q1 (by fail)) ⟨by fail, by fail⟩ (mB_in (by fail) (by fail)).symm h23 (by fail) | exact WM_b ⟨by fail, by fail⟩ (by fail) (mB_in (by fail) (by fail)).symm h23 (by fail))) (by omega)) ⟨.inl rfl, .inl rfl, .inl rfl, .inl rfl, trivial⟩
            · skip
              refine go_toq PM156 (k := 5) (pc' := 24) (L' := [some (.inr (.inr (some 79))), some (.inr (.inr (some 1016))), some (.inl 1), some (.inl (l24_3 + 1))]) (st' := []) (w' := (SH, dt)) rfl ?_
              exact GO.le (ih_loop18 1 (l24_3 + 1) (by first | omega | (intro z; first | fail | exact WQ_0 (by fail) (by fail) | exact WM_a ⟨by fail, by fail⟩ (by fail) | exact WQ_s (q1 (by fail)) ⟨by fail, by fail⟩ (mB_in (by fail) (by fail)).symm h23 (by fail) | exact WM_b ⟨by fail, by fail⟩ (by fail) (mB_in (by fail) (by fail)).symm h23 (by fail))) (by first | omega | (intro z; first | fail | exact WQ_0 (by fail) (by fail) | exact WM_a ⟨by fail, by fail⟩ (by fail) | exact WQ_s (q1 (by fail)) ⟨by fail, by fail⟩ (mB_in (by fail) (by fail)).symm h23 (by fail) | exact WM_b ⟨by fail, by fail⟩ (by fail) (mB_in (by fail) (by fail)).symm h23 (by fail))) (by first | (have z_ := unhid u40_; omega) | (intro z; first | fail | exact WQ_0 (by fail) (by fail) | exact WM_a ⟨by fail, by fail⟩ (by fail) | exact WQ_s (q1 (by fail)) ⟨by fail, by fail⟩ (mB_in (by fail) (by fail)).symm h23 (by fail) | exact WM_b ⟨by fail, by fail⟩ (by fail) (mB_in (by fail) (by fail)).symm h23 (by fail))) (by first | omega | (intro z; first | fail | exact WQ_0 (by fail) (by fail) | exact WM_a ⟨by fail, by fail⟩ (by fail) | exact WQ_s (q1 (by fail)) ⟨by fail, by fail⟩ (mB_in (by fail) (by fail)).symm h23 (by fail) | exact WM_b ⟨by fail, by fail⟩ (by fail) (mB_in (by fail) (by fail)).symm h23 (by fail))) (by first | (have z_ := unhid u40_; omega) | (intro z; first | fail | exact WQ_0 (by fail) (by fail) | exact WM_a ⟨by fail, by fail⟩ (by fail) | exact WQ_s (q1 (by fail)) ⟨by fail, by fail⟩ (mB_in (by fail) (by fail)).symm h23 (by fail) | exact WM_b ⟨by fail, by fail⟩ (by fail) (mB_in (by fail) (by fail)).symm h23 (by fail))) (by omega)) ⟨.inl rfl, .inl rfl, .inl rfl, .inl rfl, trivial⟩
    exact GO.le (loop18 _ 0 0 (by first | omega | (intro z; first | fail | exact WQ_0 (by fail) (by fail) | exact WM_a ⟨by fail, by fail⟩ (by fail) | exact WQ_s (q1 (by fail)) ⟨by fail, by fail⟩ (mB_in (by fail) (by fail)).symm hI (by fail) | exact WM_b ⟨by fail, by fail⟩ (by fail) (mB_in (by fail) (by fail)).symm hI (by fail))) (by first | omega | (intro z; first | fail | exact WQ_0 (by fail) (by fail) | exact WM_a ⟨by fail, by fail⟩ (by fail) | exact WQ_s (q1 (by fail)) ⟨by fail, by fail⟩ (mB_in (by fail) (by fail)).symm hI (by fail) | exact WM_b ⟨by fail, by fail⟩ (by fail) (mB_in (by fail) (by fail)).symm hI (by fail))) (by first | omega | (intro z; first | fail | exact WQ_0 (by fail) (by fail) | exact WM_a ⟨by fail, by fail⟩ (by fail) | exact WQ_s (q1 (by fail)) ⟨by fail, by fail⟩ (mB_in (by fail) (by fail)).symm hI (by fail) | exact WM_b ⟨by fail, by fail⟩ (by fail) (mB_in (by fail) (by fail)).symm hI (by fail))) (by first | fail | (intro z; first | fail | exact WQ_0 (by fail) (by fail) | exact WM_a ⟨by omega, by omega⟩ (by (have z0_ := unhid c5; omega)) | exact WQ_s (q1 (by fail)) ⟨by fail, by fail⟩ (mB_in (by fail) (by fail)).symm hI (by fail) | exact WM_b ⟨by fail, by fail⟩ (by fail) (mB_in (by fail) (by fail)).symm hI (by fail))) (by first | omega | (intro z; first | fail | exact WQ_0 (by fail) (by fail) | exact WM_a ⟨by fail, by fail⟩ (by fail) | exact WQ_s (q1 (by fail)) ⟨by fail, by fail⟩ (mB_in (by fail) (by fail)).symm hI (by fail) | exact WM_b ⟨by fail, by fail⟩ (by fail) (mB_in (by fail) (by fail)).symm hI (by fail))) (Nat.lt_succ_self _)) ⟨.inl rfl, .inl rfl, .inl rfl, .inl rfl, trivial⟩
  · skip
    refine go_toq PM156 (k := 5) (pc' := 24) (L' := [some (.inr (.inr (some 79))), some (.inr (.inr (some 1016))), some (.inl 1), some (.inl 0)]) (st' := []) (w' := (SH, dt)) rfl ?_
    have loop37 : ∀ (k_ : Nat) (l24_2 : Int) (l24_3 : Int) (i32 : 0 ≤ l24_2 ∧ l24_2 ≤ 1) (i33 : 0 ≤ l24_3 ∧ l24_3 ≤ 3) (i34 : l24_2 = 1 → WQ (am_Sby.getD 16 []) (dt 79 13 - dt 79 15) (mB (dt 85) (dt 79 12)) (dt 79 15) l24_3) (i35 : l24_2 = 0 → wm (am_Sby.getD 16 []) (mB (dt 85) (dt 79 12)) (dt 79 15).toNat (dt 79 13).toNat = 0) (i36 : l24_2 = 0 ∨ dt 79 13 - dt 79 15 = 3), (4 - l24_3).toNat < k_ → GO (am_XX L xs sio) (d + 4) 156 24 [some (.inr (.inr (some 79))), some (.inr (.inr (some 1016))), some (.inl l24_2), some (.inl l24_3)] [] (SH, dt) (fun r w2 => w2 = (SH, dt) ∧ ((∃ v : Int, r = some (.inl v) ∧ (0 ≤ v ∧ v ≤ 1) ∧ (v = wm (am_Sby.getD 16 []) (mB (dt 85) (dt 79 12)) (dt 79 15).toNat (dt 79 13).toNat)))) := by
      intro k_
      induction k_ with
      | zero => intro l24_2 l24_3 i32 i33 i34 i35 i36 hm; exact absurd hm (Nat.not_lt_zero _)
      | succ k_ ih_loop37 =>
        intro l24_2 l24_3 i32 i33 i34 i35 i36 hm
        replace i34 := hid i34
        replace i35 := hid i35
        replace i36 := hid i36
        have q1 := i34
        have q2 := i35
        refine go_toq PM156 (k := 2) (pc' := 26) (L' := [some (.inr (.inr (some 79))), some (.inr (.inr (some 1016))), some (.inl l24_2), some (.inl l24_3)]) (st' := [.inr (.inr (some 1016)), .inl l24_3]) (w' := (SH, dt)) rfl ?_
        refine go_callq PM156 PM249 (Q' := _) rfl rfl rfl rfl (sp_J0_length_8abf5_1016 L xs sio (d + 2) dt hI   ) ?_
        rintro _ _ ⟨rfl, h38⟩
        refine ⟨rfl, ?_⟩
        rcases h38 with ⟨rfl, h38⟩
        refine go_ifq PM156 (k := 0) (p1 := 67) (p2 := 32) (L' := [some (.inr (.inr (some 79))), some (.inr (.inr (some 1016))), some (.inl l24_2), some (.inl l24_3)]) (st' := []) (w' := (SH, dt)) rfl (c_ge (a := l24_3) (b := 3) (by first | exact bnd i33 (by decide) (by decide) | exact ⟨by fail, by fail⟩) ⟨by decide, by decide⟩) (fun c39 => ?_) (fun c39 => ?_)
        · skip
          refine go_toq PM156 (k := 1) (pc' := 68) (L' := [some (.inr (.inr (some 79))), some (.inr (.inr (some 1016))), some (.inl l24_2), some (.inl l24_3)]) (st' := [.inl l24_2]) (w' := (SH, dt)) rfl ?_
          refine go_retvq PM156 (v := l24_2) rfl (decide_eq_true (show l24_2 = 0 ∨ l24_2 = 1 by omega)) ?_
          exact ⟨rfl, ⟨_, rfl, ⟨by omega, by omega⟩, by rcases (show l24_2 = 0 ∨ l24_2 = 1 by omega) with z | z <;> first | (rw [q2 z]; exact z) | (rw [WM_1 (q1 z) ⟨by omega, by omega⟩ (by omega)]; exact z)⟩⟩
        · skip
          refine go_ifq PM156 (k := 1) (p1 := 67) (p2 := 36) (L' := [some (.inr (.inr (some 79))), some (.inr (.inr (some 1016))), some (.inl l24_2), some (.inl l24_3)]) (st' := []) (w' := (SH, dt)) rfl (z_eq (a := l24_2) (by first | exact bnd i32 (by decide) (by decide) | exact ⟨by fail, by fail⟩)) (fun c40 => ?_) (fun c40 => ?_)
          · skip
            refine go_toq PM156 (k := 1) (pc' := 68) (L' := [some (.inr (.inr (some 79))), some (.inr (.inr (some 1016))), some (.inl l24_2), some (.inl l24_3)]) (st' := [.inl l24_2]) (w' := (SH, dt)) rfl ?_
            refine go_retvq PM156 (v := l24_2) rfl (decide_eq_true (show l24_2 = 0 ∨ l24_2 = 1 by omega)) ?_
            exact ⟨rfl, ⟨_, rfl, ⟨by omega, by omega⟩, by rcases (show l24_2 = 0 ∨ l24_2 = 1 by omega) with z | z <;> first | (rw [q2 z]; exact z) | (rw [WM_1 (q1 z) ⟨by omega, by omega⟩ (by omega)]; exact z)⟩⟩
          · skip
            replace c40 := hid c40
            refine go_toq PM156 (k := 6) (pc' := 46) (L' := [some (.inr (.inr (some 79))), some (.inr (.inr (some 1016))), some (.inl l24_2), some (.inl l24_3)]) (st' := [.inl ((dt 79 15) + l24_3), .inr (.inr (some 85))]) (w' := (SH, dt)) rfl ?_
            have r41 : 0 ≤ dt 85 (((dt 79 15) + l24_3).toNat) ∧ dt 85 (((dt 79 15) + l24_3).toNat) ≤ 255 := InvC_get hI 85 (((dt 79 15) + l24_3).toNat) rfl rfl
            refine go_smpq PM156 (L' := [some (.inr (.inr (some 79))), some (.inr (.inr (some 1016))), some (.inl l24_2), some (.inl l24_3)]) (st' := [.inl (dt 85 (((dt 79 15) + l24_3).toNat))]) (w' := (SH, dt)) rfl rfl (s_iald (n := 500) (f := dt 85) rfl ⟨by omega, by omega⟩) ?_
            refine go_toq PM156 (k := 2) (pc' := 49) (L' := [some (.inr (.inr (some 79))), some (.inr (.inr (some 1016))), some (.inl l24_2), some (.inl l24_3)]) (st' := [.inl l24_3, .inr (.inr (some 1016)), .inl (dt 85 (((dt 79 15) + l24_3).toNat))]) (w' := (SH, dt)) rfl ?_
            refine go_callq PM156 PM250 (Q' := _) rfl rfl rfl rfl (sp_J0_charAt_5068e_16f L xs sio (d + 0) dt hI  l24_3 (by first | exact bnd i33 (by decide) (by decide) | exact bndd i33 c39 (by decide) (by decide) | exact ⟨by fail, by fail⟩) ) ?_
            rintro _ _ ⟨rfl, h42⟩
            refine ⟨rfl, ?_⟩
            rcases h42 with ⟨v_h42, rfl, h42r, h42⟩
            refine go_ifq PM156 (k := 0) (p1 := 59) (p2 := 55) (L' := [some (.inr (.inr (some 79))), some (.inr (.inr (some 1016))), some (.inl l24_2), some (.inl l24_3)]) (st' := []) (w' := (SH, dt)) rfl (c_ne (a := dt 85 (((dt 79 15) + l24_3).toNat)) (b := v_h42) (by first | exact bnd r41 (by decide) (by decide) | exact ⟨by fail, by fail⟩) (by first | exact bnd h42r (by decide) (by decide) | exact ⟨by fail, by fail⟩)) (fun c43 => ?_) (fun c43 => ?_)
            · skip
              replace c43 := hid c43
              refine go_toq PM156 (k := 4) (pc' := 24) (L' := [some (.inr (.inr (some 79))), some (.inr (.inr (some 1016))), some (.inl 0), some (.inl (l24_3 + 1))]) (st' := []) (w' := (SH, dt)) rfl ?_
              have u42_ := hid (And.intro (unhid i35) (And.intro (unhid i36) (And.intro (unhid c40) (unhid c43))))
              exact GO.le (ih_loop37 0 (l24_3 + 1) (by first | omega | (intro z; first | fail | exact WQ_0 (by fail) (by fail) | exact WM_a ⟨by fail, by fail⟩ (by fail) | exact WQ_s (q1 (by fail)) ⟨by fail, by fail⟩ (mB_in (by fail) (by fail)).symm h42 (by fail) | exact WM_b ⟨by fail, by fail⟩ (by fail) (mB_in (by fail) (by fail)).symm h42 (by fail))) (by first | omega | (intro z; first | fail | exact WQ_0 (by fail) (by fail) | exact WM_a ⟨by fail, by fail⟩ (by fail) | exact WQ_s (q1 (by fail)) ⟨by fail, by fail⟩ (mB_in (by fail) (by fail)).symm h42 (by fail) | exact WM_b ⟨by fail, by fail⟩ (by fail) (mB_in (by fail) (by fail)).symm h42 (by fail))) (by first | omega | (intro z; first | fail | exact WQ_0 (by fail) (by fail) | exact WM_a ⟨by fail, by fail⟩ (by fail) | exact WQ_s (q1 (by fail)) ⟨by fail, by fail⟩ (mB_in (by fail) (by fail)).symm h42 (by fail) | exact WM_b ⟨by fail, by fail⟩ (by fail) (mB_in (by fail) (by fail)).symm h42 (by fail))) (by first | fail | (intro z; first | fail | exact WQ_0 (by fail) (by fail) | exact WM_a ⟨by omega, by omega⟩ (by fail) | exact WQ_s (q1 (by (have z_ := unhid u42_; omega))) ⟨by omega, by omega⟩ (mB_in (by omega) (by omega)).symm h42 (by fail) | exact WM_b ⟨by omega, by omega⟩ (by omega) (mB_in (by omega) (by omega)).symm h42 (by (have z_ := unhid u42_; omega)))) (by first | omega | (intro z; first | fail | exact WQ_0 (by fail) (by fail) | exact WM_a ⟨by fail, by fail⟩ (by fail) | exact WQ_s (q1 (by fail)) ⟨by fail, by fail⟩ (mB_in (by fail) (by fail)).symm h42 (by fail) | exact WM_b ⟨by fail, by fail⟩ (by fail) (mB_in (by fail) (by fail)).symm h42 (by fail))) (by omega)) ⟨.inl rfl, .inl rfl, .inl rfl, .inl rfl, trivial⟩
            · skip
              refine go_toq PM156 (k := 5) (pc' := 24) (L' := [some (.inr (.inr (some 79))), some (.inr (.inr (some 1016))), some (.inl 1), some (.inl (l24_3 + 1))]) (st' := []) (w' := (SH, dt)) rfl ?_
              exact GO.le (ih_loop37 1 (l24_3 + 1) (by first | omega | (intro z; first | fail | exact WQ_0 (by fail) (by fail) | exact WM_a ⟨by fail, by fail⟩ (by fail) | exact WQ_s (q1 (by fail)) ⟨by fail, by fail⟩ (mB_in (by fail) (by fail)).symm h42 (by fail) | exact WM_b ⟨by fail, by fail⟩ (by fail) (mB_in (by fail) (by fail)).symm h42 (by fail))) (by first | omega | (intro z; first | fail | exact WQ_0 (by fail) (by fail) | exact WM_a ⟨by fail, by fail⟩ (by fail) | exact WQ_s (q1 (by fail)) ⟨by fail, by fail⟩ (mB_in (by fail) (by fail)).symm h42 (by fail) | exact WM_b ⟨by fail, by fail⟩ (by fail) (mB_in (by fail) (by fail)).symm h42 (by fail))) (by first | fail | (intro z; first | fail | exact WQ_0 (by omega) (by fail) | exact WM_a ⟨by fail, by fail⟩ (by fail) | exact WQ_s (q1 (by (have z0_ := unhid i35; have z1_ := unhid i36; have z2_ := unhid c40; omega))) ⟨by omega, by omega⟩ (mB_in (by omega) (by omega)).symm h42 (by omega) | exact WM_b ⟨by fail, by fail⟩ (by fail) (mB_in (by fail) (by fail)).symm h42 (by fail))) (by first | omega | (intro z; first | fail | exact WQ_0 (by fail) (by fail) | exact WM_a ⟨by fail, by fail⟩ (by fail) | exact WQ_s (q1 (by fail)) ⟨by fail, by fail⟩ (mB_in (by fail) (by fail)).symm h42 (by fail) | exact WM_b ⟨by fail, by fail⟩ (by fail) (mB_in (by fail) (by fail)).symm h42 (by fail))) (by first | omega | (intro z; first | fail | exact WQ_0 (by fail) (by fail) | exact WM_a ⟨by fail, by fail⟩ (by fail) | exact WQ_s (q1 (by fail)) ⟨by fail, by fail⟩ (mB_in (by fail) (by fail)).symm h42 (by fail) | exact WM_b ⟨by fail, by fail⟩ (by fail) (mB_in (by fail) (by fail)).symm h42 (by fail))) (by omega)) ⟨.inl rfl, .inl rfl, .inl rfl, .inl rfl, trivial⟩
    exact GO.le (loop37 _ 1 0 (by first | omega | (intro z; first | fail | exact WQ_0 (by fail) (by fail) | exact WM_a ⟨by fail, by fail⟩ (by fail) | exact WQ_s (q1 (by fail)) ⟨by fail, by fail⟩ (mB_in (by fail) (by fail)).symm hI (by fail) | exact WM_b ⟨by fail, by fail⟩ (by fail) (mB_in (by fail) (by fail)).symm hI (by fail))) (by first | omega | (intro z; first | fail | exact WQ_0 (by fail) (by fail) | exact WM_a ⟨by fail, by fail⟩ (by fail) | exact WQ_s (q1 (by fail)) ⟨by fail, by fail⟩ (mB_in (by fail) (by fail)).symm hI (by fail) | exact WM_b ⟨by fail, by fail⟩ (by fail) (mB_in (by fail) (by fail)).symm hI (by fail))) (by first | fail | (intro z; first | fail | exact WQ_0 (by omega) (by omega) | exact WM_a ⟨by fail, by fail⟩ (by fail) | exact WQ_s (q1 (by fail)) ⟨by fail, by fail⟩ (mB_in (by fail) (by fail)).symm hI (by fail) | exact WM_b ⟨by fail, by fail⟩ (by fail) (mB_in (by fail) (by fail)).symm hI (by fail))) (by first | omega | (intro z; first | fail | exact WQ_0 (by fail) (by fail) | exact WM_a ⟨by fail, by fail⟩ (by fail) | exact WQ_s (q1 (by fail)) ⟨by fail, by fail⟩ (mB_in (by fail) (by fail)).symm hI (by fail) | exact WM_b ⟨by fail, by fail⟩ (by fail) (mB_in (by fail) (by fail)).symm hI (by fail))) (by first | omega | (intro z; first | fail | exact WQ_0 (by fail) (by fail) | exact WM_a ⟨by fail, by fail⟩ (by fail) | exact WQ_s (q1 (by fail)) ⟨by fail, by fail⟩ (mB_in (by fail) (by fail)).symm hI (by fail) | exact WM_b ⟨by fail, by fail⟩ (by fail) (mB_in (by fail) (by fail)).symm hI (by fail))) (Nat.lt_succ_self _)) ⟨.inl rfl, .inl rfl, .inl rfl, .inl rfl, trivial⟩
theorem sp_J1_charAt_3b067_17f (L : Nat) (xs : Nat → Int32) (sio : Option Nat) (d : Nat) (dt : Nat → Nat → Int) (hI : InvC dt)  (p2 : Int) (h_p2 : 0 ≤ p2 ∧ p2 ≤ 2)  : GO (am_XX L xs sio) (d + 2) 256 0 [some (.inr (.inr (some 2017))), some (.inl p2)] [] (SH, dt) (fun r w2 => w2 = (SH, dt) ∧ ((∃ v : Int, r = some (.inl v) ∧ (0 ≤ v ∧ v ≤ 65535) ∧ (v = (am_Sby.getD 17 []).getD p2.toNat 0)))) := by
  refine go_toq PM256 (k := 3) (pc' := 3) (L' := [some (.inr (.inr (some 2017))), some (.inl p2)]) (st' := [.inl 3, .inl p2]) (w' := (SH, dt)) rfl ?_
  refine go_callq PM256 PM255 (Q' := _) rfl rfl rfl rfl (sp_J0_checkIndex_df160 L xs sio (d + 0) dt hI  p2 (by first | exact h_p2 | exact bnd h_p2 (by decide) (by decide) | exact ⟨by fail, by fail⟩) 3 ⟨by decide, by decide⟩ (by first | exact True.intro | with_reducible assumption | rfl | omega | trivial)) ?_
  rintro _ _ ⟨rfl, h1⟩
  refine ⟨rfl, ?_⟩
  rcases h1 with ⟨rfl, h1⟩
  refine go_toq PM256 (k := 2) (pc' := 8) (L' := [some (.inr (.inr (some 2017))), some (.inl p2)]) (st' := [.inl p2, .inr (.inr (some 2017))]) (w' := (SH, dt)) rfl ?_
  have r2 := sby_R 17 (p2).toNat
  refine go_smpq PM256 (L' := [some (.inr (.inr (some 2017))), some (.inl p2)]) (st' := [.inl ((am_Sby.getD 17 []).getD (p2).toNat 0)]) (w' := (SH, dt)) rfl rfl (s_bald (n := 3) (f := fun q => (am_Sby.getD 17 []).getD q 0) rfl (by first | exact bndx h_p2 (by decide) (by decide) | exact ⟨by fail, by fail⟩)) ?_
  have r3 : 0 ≤ am_and ((am_Sby.getD 17 []).getD (p2).toNat 0) 255 ∧ am_and ((am_Sby.getD 17 []).getD (p2).toNat 0) 255 ≤ 255 := and_R255
  have r4 := i2c_R (am_and ((am_Sby.getD 17 []).getD (p2).toNat 0) 255)
  refine go_toq PM256 (k := 3) (pc' := 14) (L' := [some (.inr (.inr (some 2017))), some (.inl p2)]) (st' := [.inl (am_i2c (am_and ((am_Sby.getD 17 []).getD (p2).toNat 0) 255))]) (w' := (SH, dt)) rfl ?_
  refine go_retvq PM256 (v := am_i2c (am_and ((am_Sby.getD 17 []).getD (p2).toNat 0) 255)) rfl (decide_eq_true (show 0 ≤ am_i2c (am_and ((am_Sby.getD 17 []).getD (p2).toNat 0) 255) ∧ am_i2c (am_and ((am_Sby.getD 17 []).getD (p2).toNat 0) 255) < 65536 by omega)) ?_
  exact ⟨rfl, ⟨_, rfl, ⟨by omega, by omega⟩, by exact ic_id ⟨by omega, by omega⟩⟩⟩
theorem sp_J0_charAt_5068e_17f (L : Nat) (xs : Nat → Int32) (sio : Option Nat) (d : Nat) (dt : Nat → Nat → Int) (hI : InvC dt)  (p1 : Int) (h_p1 : 0 ≤ p1 ∧ p1 ≤ 2)  : GO (am_XX L xs sio) (d + 3) 250 0 [some (.inr (.inr (some 1017))), some (.inl p1)] [] (SH, dt) (fun r w2 => w2 = (SH, dt) ∧ ((∃ v : Int, r = some (.inl v) ∧ (0 ≤ v ∧ v ≤ 65535) ∧ (v = (am_Sby.getD 17 []).getD p1.toNat 0)))) := by
  refine go_toq PM250 (k := 1) (pc' := 1) (L' := [some (.inr (.inr (some 1017))), some (.inl p1)]) (st' := [.inr (.inr (some 1017))]) (w' := (SH, dt)) rfl ?_
  refine go_callq PM250 PM254 (Q' := _) rfl rfl rfl rfl (sp_J0_isLatin1_aae02_1017 L xs sio (d + 2) dt hI   ) ?_
  rintro _ _ ⟨rfl, h1⟩
  refine ⟨rfl, ?_⟩
  rcases h1 with ⟨rfl, h1⟩
  refine go_toq PM250 (k := 4) (pc' := 12) (L' := [some (.inr (.inr (some 1017))), some (.inl p1)]) (st' := [.inl p1, .inr (.inr (some 2017))]) (w' := (SH, dt)) rfl ?_
  refine go_callq PM250 PM256 (Q' := _) rfl rfl rfl rfl (sp_J1_charAt_3b067_17f L xs sio (d + 0) dt hI  p1 (by first | exact h_p1 | exact bnd h_p1 (by decide) (by decide) | exact ⟨by fail, by fail⟩) ) ?_
  rintro _ _ ⟨rfl, h2⟩
  refine ⟨rfl, ?_⟩
  rcases h2 with ⟨v_h2, rfl, h2r, h2⟩
  refine go_retvq PM250 (v := v_h2) rfl (decide_eq_true (show 0 ≤ v_h2 ∧ v_h2 < 65536 by omega)) ?_
  exact ⟨rfl, ⟨_, rfl, ⟨by omega, by omega⟩, by first | exact True.intro | with_reducible assumption | rfl | fail | trivial⟩⟩
set_option maxRecDepth 20000 in
theorem sp_X6_is_17f (L : Nat) (xs : Nat → Int32) (sio : Option Nat) (d : Nat) (dt : Nat → Nat → Int) (hI : InvC dt)   (h_p0 : dt 79 13 ≤ 500) (h_p1 : dt 79 15 ≤ dt 79 13) (h_p2 : dt 79 13 ≤ dt 79 12) : GO (am_XX L xs sio) (d + 4) 156 0 [some (.inr (.inr (some 79))), some (.inr (.inr (some 1017))), none, none] [] (SH, dt) (fun r w2 => w2 = (SH, dt) ∧ ((∃ v : Int, r = some (.inl v) ∧ (0 ≤ v ∧ v ≤ 1) ∧ (v = wm (am_Sby.getD 17 []) (mB (dt 85) (dt 79 12)) (dt 79 15).toNat (dt 79 13).toNat)))) := by
  have r1 : 0 ≤ dt 79 13 ∧ dt 79 13 ≤ 501 := InvC_get hI 79 13 rfl rfl
  have r2 : 0 ≤ dt 79 15 ∧ dt 79 15 ≤ 500 := InvC_get hI 79 15 rfl rfl
  have r3 : 0 ≤ dt 79 12 ∧ dt 79 12 ≤ 500 := InvC_get hI 79 12 rfl rfl
  have hlen : (((am_Sby.getD 17 []).length : Nat) : Int) = 3 := rfl
  refine go_toq PM156 (k := 6) (pc' := 10) (L' := [some (.inr (.inr (some 79))), some (.inr (.inr (some 1017))), none, none]) (st' := [.inr (.inr (some 1017)), .inl ((dt 79 13) - (dt 79 15))]) (w' := (SH, dt)) rfl ?_
  refine go_callq PM156 PM249 (Q' := _) rfl rfl rfl rfl (sp_J0_length_8abf5_1017 L xs sio (d + 2) dt hI   ) ?_
  rintro _ _ ⟨rfl, h4⟩
  refine ⟨rfl, ?_⟩
  rcases h4 with ⟨rfl, h4⟩
  refine go_ifq PM156 (k := 0) (p1 := 20) (p2 := 16) (L' := [some (.inr (.inr (some 79))), some (.inr (.inr (some 1017))), none, none]) (st' := []) (w' := (SH, dt)) rfl (c_ne (a := (dt 79 13) - (dt 79 15)) (b := 3) ⟨by omega, by omega⟩ ⟨by decide, by decide⟩) (fun c5 => ?_) (fun c5 => ?_)
  · skip
    replace c5 := hid c5
    refine go_toq PM156 (k := 4) (pc' := 24) (L' := [some (.inr (.inr (some 79))), some (.inr (.inr (some 1017))), some (.inl 0), some (.inl 0)]) (st' := []) (w' := (SH, dt)) rfl ?_
    have loop18 : ∀ (k_ : Nat) (l24_2 : Int) (l24_3 : Int) (i13 : 0 ≤ l24_2 ∧ l24_2 ≤ 1) (i14 : 0 ≤ l24_3 ∧ l24_3 ≤ 3) (i15 : l24_2 = 1 → WQ (am_Sby.getD 17 []) (dt 79 13 - dt 79 15) (mB (dt 85) (dt 79 12)) (dt 79 15) l24_3) (i16 : l24_2 = 0 → wm (am_Sby.getD 17 []) (mB (dt 85) (dt 79 12)) (dt 79 15).toNat (dt 79 13).toNat = 0) (i17 : l24_2 = 0 ∨ dt 79 13 - dt 79 15 = 3), (4 - l24_3).toNat < k_ → GO (am_XX L xs sio) (d + 4) 156 24 [some (.inr (.inr (some 79))), some (.inr (.inr (some 1017))), some (.inl l24_2), some (.inl l24_3)] [] (SH, dt) (fun r w2 => w2 = (SH, dt) ∧ ((∃ v : Int, r = some (.inl v) ∧ (0 ≤ v ∧ v ≤ 1) ∧ (v = wm (am_Sby.getD 17 []) (mB (dt 85) (dt 79 12)) (dt 79 15).toNat (dt 79 13).toNat)))) := by
      intro k_
      induction k_ with
      | zero => intro l24_2 l24_3 i13 i14 i15 i16 i17 hm; exact absurd hm (Nat.not_lt_zero _)
      | succ k_ ih_loop18 =>
        intro l24_2 l24_3 i13 i14 i15 i16 i17 hm
        replace i15 := hid i15
        replace i16 := hid i16
        replace i17 := hid i17
        have q1 := i15
        have q2 := i16
        refine go_toq PM156 (k := 2) (pc' := 26) (L' := [some (.inr (.inr (some 79))), some (.inr (.inr (some 1017))), some (.inl l24_2), some (.inl l24_3)]) (st' := [.inr (.inr (some 1017)), .inl l24_3]) (w' := (SH, dt)) rfl ?_
        refine go_callq PM156 PM249 (Q' := _) rfl rfl rfl rfl (sp_J0_length_8abf5_1017 L xs sio (d + 2) dt hI   ) ?_
        rintro _ _ ⟨rfl, h19⟩
        refine ⟨rfl, ?_⟩
        rcases h19 with ⟨rfl, h19⟩
        refine go_ifq PM156 (k := 0) (p1 := 67) (p2 := 32) (L' := [some (.inr (.inr (some 79))), some (.inr (.inr (some 1017))), some (.inl l24_2), some (.inl l24_3)]) (st' := []) (w' := (SH, dt)) rfl (c_ge (a := l24_3) (b := 3) (by first | exact bnd i14 (by decide) (by decide) | exact ⟨by fail, by fail⟩) ⟨by decide, by decide⟩) (fun c20 => ?_) (fun c20 => ?_)
        · skip
          refine go_toq PM156 (k := 1) (pc' := 68) (L' := [some (.inr (.inr (some 79))), some (.inr (.inr (some 1017))), some (.inl l24_2), some (.inl l24_3)]) (st' := [.inl l24_2]) (w' := (SH, dt)) rfl ?_
          refine go_retvq PM156 (v := l24_2) rfl (decide_eq_true (show l24_2 = 0 ∨ l24_2 = 1 by omega)) ?_
          exact ⟨rfl, ⟨_, rfl, ⟨by omega, by omega⟩, by rcases (show l24_2 = 0 ∨ l24_2 = 1 by omega) with z | z <;> first | (rw [q2 z]; exact z) | (rw [WM_1 (q1 z) ⟨by omega, by omega⟩ (by omega)]; exact z)⟩⟩
        · skip
          refine go_ifq PM156 (k := 1) (p1 := 67) (p2 := 36) (L' := [some (.inr (.inr (some 79))), some (.inr (.inr (some 1017))), some (.inl l24_2), some (.inl l24_3)]) (st' := []) (w' := (SH, dt)) rfl (z_eq (a := l24_2) (by first | exact bnd i13 (by decide) (by decide) | exact ⟨by fail, by fail⟩)) (fun c21 => ?_) (fun c21 => ?_)
          · skip
            refine go_toq PM156 (k := 1) (pc' := 68) (L' := [some (.inr (.inr (some 79))), some (.inr (.inr (some 1017))), some (.inl l24_2), some (.inl l24_3)]) (st' := [.inl l24_2]) (w' := (SH, dt)) rfl ?_
            refine go_retvq PM156 (v := l24_2) rfl (decide_eq_true (show l24_2 = 0 ∨ l24_2 = 1 by omega)) ?_
            exact ⟨rfl, ⟨_, rfl, ⟨by omega, by omega⟩, by rcases (show l24_2 = 0 ∨ l24_2 = 1 by omega) with z | z <;> first | (rw [q2 z]; exact z) | (rw [WM_1 (q1 z) ⟨by omega, by omega⟩ (by omega)]; exact z)⟩⟩
          · skip
            replace c21 := hid c21
            refine go_toq PM156 (k := 6) (pc' := 46) (L' := [some (.inr (.inr (some 79))), some (.inr (.inr (some 1017))), some (.inl l24_2), some (.inl l24_3)]) (st' := [.inl ((dt 79 15) + l24_3), .inr (.inr (some 85))]) (w' := (SH, dt)) rfl ?_
            have r22 : 0 ≤ dt 85 (((dt 79 15) + l24_3).toNat) ∧ dt 85 (((dt 79 15) + l24_3).toNat) ≤ 255 := InvC_get hI 85 (((dt 79 15) + l24_3).toNat) rfl rfl
            have u43_ := hid (And.intro (unhid c5) (And.intro (unhid i16) (And.intro (unhid i17) (unhid c21))))
            refine go_smpq PM156 (L' := [some (.inr (.inr (some 79))), some (.inr (.inr (some 1017))), some (.inl l24_2), some (.inl l24_3)]) (st' := [.inl (dt 85 (((dt 79 15) + l24_3).toNat))]) (w' := (SH, dt)) rfl rfl (s_iald (n := 500) (f := dt 85) rfl ⟨by omega, by (have z_ := unhid u43_; omega)⟩) ?_
            refine go_toq PM156 (k := 2) (pc' := 49) (L' := [some (.inr (.inr (some 79))), some (.inr (.inr (some 1017))), some (.inl l24_2), some (.inl l24_3)]) (st' := [.inl l24_3, .inr (.inr (some 1017)), .inl (dt 85 (((dt 79 15) + l24_3).toNat))]) (w' := (SH, dt)) rfl ?_
            refine go_callq PM156 PM250 (Q' := _) rfl rfl rfl rfl (sp_J0_charAt_5068e_17f L xs sio (d + 0) dt hI  l24_3 (by first | exact bnd i14 (by decide) (by decide) | exact bndd i14 c20 (by decide) (by decide) | exact ⟨by fail, by fail⟩) ) ?_
            rintro _ _ ⟨rfl, h23⟩
            refine ⟨rfl, ?_⟩
            rcases h23 with ⟨v_h23, rfl, h23r, h23⟩
            refine go_ifq PM156 (k := 0) (p1 := 59) (p2 := 55) (L' := [some (.inr (.inr (some 79))), some (.inr (.inr (some 1017))), some (.inl l24_2), some (.inl l24_3)]) (st' := []) (w' := (SH, dt)) rfl (c_ne (a := dt 85 (((dt 79 15) + l24_3).toNat)) (b := v_h23) (by first | exact bnd r22 (by decide) (by decide) | exact ⟨by fail, by fail⟩) (by first | exact bnd h23r (by decide) (by decide) | exact ⟨by fail, by fail⟩)) (fun c24 => ?_) (fun c24 => ?_)
            · skip
              replace c24 := hid c24
              refine go_toq PM156 (k := 4) (pc' := 24) (L' := [some (.inr (.inr (some 79))), some (.inr (.inr (some 1017))), some (.inl 0), some (.inl (l24_3 + 1))]) (st' := []) (w' := (SH, dt)) rfl ?_
              have u44_ := hid (And.intro (unhid c5) (And.intro (unhid i16) (And.intro (unhid i17) (And.intro (unhid c21) (unhid c24)))))
              exact GO.le (ih_loop18 0 (l24_3 + 1) (by first | omega | (intro z; first | fail | exact WQ_0 (by fail) (by fail) | exact WM_a ⟨by fail, by fail⟩ (by fail) | exact WQ_s (q1 (by fail)) ⟨by fail, by fail⟩ (mB_in (by fail) (by fail)).symm h23 (by fail) | exact WM_b ⟨by fail, by fail⟩ (by fail) (mB_in (by fail) (by fail)).symm h23 (by fail))) (by first | omega | (intro z; first | fail | exact WQ_0 (by fail) (by fail) | exact WM_a ⟨by fail, by fail⟩ (by fail) | exact WQ_s (q1 (by fail)) ⟨by fail, by fail⟩ (mB_in (by fail) (by fail)).symm h23 (by fail) | exact WM_b ⟨by fail, by fail⟩ (by fail) (mB_in (by fail) (by fail)).symm h23 (by fail))) (by first | omega | (intro z; first | fail | exact WQ_0 (by fail) (by fail) | exact WM_a ⟨by fail, by fail⟩ (by fail) | exact WQ_s (q1 (by fail)) ⟨by fail, by fail⟩ (mB_in (by fail) (by fail)).symm h23 (by fail) | exact WM_b ⟨by fail, by fail⟩ (by fail) (mB_in (by fail) (by fail)).symm h23 (by fail))) (by first | (have z_ := unhid u44_; omega) | (intro z; first | fail | exact WQ_0 (by fail) (by fail) | exact WM_a ⟨by fail, by fail⟩ (by fail) | exact WQ_s (q1 (by fail)) ⟨by fail, by fail⟩ (mB_in (by fail) (by fail)).symm h23 (by fail) | exact WM_b ⟨by fail, by fail⟩ (by fail) (mB_in (by fail) (by fail)).symm h23 (by fail))) (by first | omega | (intro z; first | fail | exact WQ_0 (by fail) (by fail) | exact WM_a ⟨by fail, by fail⟩ (by fail) | exact WQ_s (q1 (by fail)) ⟨by fail, by fail⟩ (mB_in (by fail) (by fail)).symm h23 (by fail) | exact WM_b ⟨by fail, by fail⟩ (by fail) (mB_in (by fail) (by fail)).symm h23 (by fail))) (by omega)) ⟨.inl rfl, .inl rfl, .inl rfl, .inl rfl, trivial⟩
            · skip
              refine go_toq PM156 (k := 5) (pc' := 24) (L' := [some (.inr (.inr (some 79))), some (.inr (.inr (some 1017))), some (.inl 1), some (.inl (l24_3 + 1))]) (st' := []) (w' := (SH, dt)) rfl ?_
              exact GO.le (ih_loop18 1 (l24_3 + 1) (by first | omega | (intro z; first | fail | exact WQ_0 (by fail) (by fail) | exact WM_a ⟨by fail, by fail⟩ (by fail) | exact WQ_s (q1 (by fail)) ⟨by fail, by fail⟩ (mB_in (by fail) (by fail)).symm h23 (by fail) | exact WM_b ⟨by fail, by fail⟩ (by fail) (mB_in (by fail) (by fail)).symm h23 (by fail))) (by first | omega | (intro z; first | fail | exact WQ_0 (by fail) (by fail) | exact WM_a ⟨by fail, by fail⟩ (by fail) | exact WQ_s (q1 (by fail)) ⟨by fail, by fail⟩ (mB_in (by fail) (by fail)).symm h23 (by fail) | exact WM_b ⟨by fail, by fail⟩ (by fail) (mB_in (by fail) (by fail)).symm h23 (by fail))) (by first | (have z_ := unhid u43_; omega) | (intro z; first | fail | exact WQ_0 (by fail) (by fail) | exact WM_a ⟨by fail, by fail⟩ (by fail) | exact WQ_s (q1 (by fail)) ⟨by fail, by fail⟩ (mB_in (by fail) (by fail)).symm h23 (by fail) | exact WM_b ⟨by fail, by fail⟩ (by fail) (mB_in (by fail) (by fail)).symm h23 (by fail))) (by first | omega | (intro z; first | fail | exact WQ_0 (by fail) (by fail) | exact WM_a ⟨by fail, by fail⟩ (by fail) | exact WQ_s (q1 (by fail)) ⟨by fail, by fail⟩ (mB_in (by fail) (by fail)).symm h23 (by fail) | exact WM_b ⟨by fail, by fail⟩ (by fail) (mB_in (by fail) (by fail)).symm h23 (by fail))) (by first | (have z_ := unhid u43_; omega) | (intro z; first | fail | exact WQ_0 (by fail) (by fail) | exact WM_a ⟨by fail, by fail⟩ (by fail) | exact WQ_s (q1 (by fail)) ⟨by fail, by fail⟩ (mB_in (by fail) (by fail)).symm h23 (by fail) | exact WM_b ⟨by fail, by fail⟩ (by fail) (mB_in (by fail) (by fail)).symm h23 (by fail))) (by omega)) ⟨.inl rfl, .inl rfl, .inl rfl, .inl rfl, trivial⟩
    exact GO.le (loop18 _ 0 0 (by first | omega | (intro z; first | fail | exact WQ_0 (by fail) (by fail) | exact WM_a ⟨by fail, by fail⟩ (by fail) | exact WQ_s (q1 (by fail)) ⟨by fail, by fail⟩ (mB_in (by fail) (by fail)).symm hI (by fail) | exact WM_b ⟨by fail, by fail⟩ (by fail) (mB_in (by fail) (by fail)).symm hI (by fail))) (by first | omega | (intro z; first | fail | exact WQ_0 (by fail) (by fail) | exact WM_a ⟨by fail, by fail⟩ (by fail) | exact WQ_s (q1 (by fail)) ⟨by fail, by fail⟩ (mB_in (by fail) (by fail)).symm hI (by fail) | exact WM_b ⟨by fail, by fail⟩ (by fail) (mB_in (by fail) (by fail)).symm hI (by fail))) (by first | omega | (intro z; first | fail | exact WQ_0 (by fail) (by fail) | exact WM_a ⟨by fail, by fail⟩ (by fail) | exact WQ_s (q1 (by fail)) ⟨by fail, by fail⟩ (mB_in (by fail) (by fail)).symm hI (by fail) | exact WM_b ⟨by fail, by fail⟩ (by fail) (mB_in (by fail) (by fail)).symm hI (by fail))) (by first | fail | (intro z; first | fail | exact WQ_0 (by fail) (by fail) | exact WM_a ⟨by omega, by omega⟩ (by (have z0_ := unhid c5; omega)) | exact WQ_s (q1 (by fail)) ⟨by fail, by fail⟩ (mB_in (by fail) (by fail)).symm hI (by fail) | exact WM_b ⟨by fail, by fail⟩ (by fail) (mB_in (by fail) (by fail)).symm hI (by fail))) (by first | omega | (intro z; first | fail | exact WQ_0 (by fail) (by fail) | exact WM_a ⟨by fail, by fail⟩ (by fail) | exact WQ_s (q1 (by fail)) ⟨by fail, by fail⟩ (mB_in (by fail) (by fail)).symm hI (by fail) | exact WM_b ⟨by fail, by fail⟩ (by fail) (mB_in (by fail) (by fail)).symm hI (by fail))) (Nat.lt_succ_self _)) ⟨.inl rfl, .inl rfl, .inl rfl, .inl rfl, trivial⟩
  · skip
    refine go_toq PM156 (k := 5) (pc' := 24) (L' := [some (.inr (.inr (some 79))), some (.inr (.inr (some 1017))), some (.inl 1), some (.inl 0)]) (st' := []) (w' := (SH, dt)) rfl ?_
    have loop37 : ∀ (k_ : Nat) (l24_2 : Int) (l24_3 : Int) (i32 : 0 ≤ l24_2 ∧ l24_2 ≤ 1) (i33 : 0 ≤ l24_3 ∧ l24_3 ≤ 3) (i34 : l24_2 = 1 → WQ (am_Sby.getD 17 []) (dt 79 13 - dt 79 15) (mB (dt 85) (dt 79 12)) (dt 79 15) l24_3) (i35 : l24_2 = 0 → wm (am_Sby.getD 17 []) (mB (dt 85) (dt 79 12)) (dt 79 15).toNat (dt 79 13).toNat = 0) (i36 : l24_2 = 0 ∨ dt 79 13 - dt 79 15 = 3), (4 - l24_3).toNat < k_ → GO (am_XX L xs sio) (d + 4) 156 24 [some (.inr (.inr (some 79))), some (.inr (.inr (some 1017))), some (.inl l24_2), some (.inl l24_3)] [] (SH, dt) (fun r w2 => w2 = (SH, dt) ∧ ((∃ v : Int, r = some (.inl v) ∧ (0 ≤ v ∧ v ≤ 1) ∧ (v = wm (am_Sby.getD 17 []) (mB (dt 85) (dt 79 12)) (dt 79 15).toNat (dt 79 13).toNat)))) := by
      intro k_
      induction k_ with
      | zero => intro l24_2 l24_3 i32 i33 i34 i35 i36 hm; exact absurd hm (Nat.not_lt_zero _)
      | succ k_ ih_loop37 =>
        intro l24_2 l24_3 i32 i33 i34 i35 i36 hm
        replace i34 := hid i34
        replace i35 := hid i35
        replace i36 := hid i36
        have q1 := i34
        have q2 := i35
        refine go_toq PM156 (k := 2) (pc' := 26) (L' := [some (.inr (.inr (some 79))), some (.inr (.inr (some 1017))), some (.inl l24_2), some (.inl l24_3)]) (st' := [.inr (.inr (some 1017)), .inl l24_3]) (w' := (SH, dt)) rfl ?_
        refine go_callq PM156 PM249 (Q' := _) rfl rfl rfl rfl (sp_J0_length_8abf5_1017 L xs sio (d + 2) dt hI   ) ?_
        rintro _ _ ⟨rfl, h38⟩
        refine ⟨rfl, ?_⟩
        rcases h38 with ⟨rfl, h38⟩
        refine go_ifq PM156 (k := 0) (p1 := 67) (p2 := 32) (L' := [some (.inr (.inr (some 79))), some (.inr (.inr (some 1017))), some (.inl l24_2), some (.inl l24_3)]) (st' := []) (w' := (SH, dt)) rfl (c_ge (a := l24_3) (b := 3) (by first | exact bnd i33 (by decide) (by decide) | exact ⟨by fail, by fail⟩) ⟨by decide, by decide⟩) (fun c39 => ?_) (fun c39 => ?_)
        · skip
          refine go_toq PM156 (k := 1) (pc' := 68) (L' := [some (.inr (.inr (some 79))), some (.inr (.inr (some 1017))), some (.inl l24_2), some (.inl l24_3)]) (st' := [.inl l24_2]) (w' := (SH, dt)) rfl ?_
          refine go_retvq PM156 (v := l24_2) rfl (decide_eq_true (show l24_2 = 0 ∨ l24_2 = 1 by omega)) ?_
          exact ⟨rfl, ⟨_, rfl, ⟨by omega, by omega⟩, by rcases (show l24_2 = 0 ∨ l24_2 = 1 by omega) with z | z <;> first | (rw [q2 z]; exact z) | (rw [WM_1 (q1 z) ⟨by omega, by omega⟩ (by omega)]; exact z)⟩⟩
        · skip
          refine go_ifq PM156 (k := 1) (p1 := 67) (p2 := 36) (L' := [some (.inr (.inr (some 79))), some (.inr (.inr (some 1017))), some (.inl l24_2), some (.inl l24_3)]) (st' := []) (w' := (SH, dt)) rfl (z_eq (a := l24_2) (by first | exact bnd i32 (by decide) (by decide) | exact ⟨by fail, by fail⟩)) (fun c40 => ?_) (fun c40 => ?_)
          · skip
            refine go_toq PM156 (k := 1) (pc' := 68) (L' := [some (.inr (.inr (some 79))), some (.inr (.inr (some 1017))), some (.inl l24_2), some (.inl l24_3)]) (st' := [.inl l24_2]) (w' := (SH, dt)) rfl ?_
            refine go_retvq PM156 (v := l24_2) rfl (decide_eq_true (show l24_2 = 0 ∨ l24_2 = 1 by omega)) ?_
            exact ⟨rfl, ⟨_, rfl, ⟨by omega, by omega⟩, by rcases (show l24_2 = 0 ∨ l24_2 = 1 by omega) with z | z <;> first | (rw [q2 z]; exact z) | (rw [WM_1 (q1 z) ⟨by omega, by omega⟩ (by omega)]; exact z)⟩⟩
          · skip
            replace c40 := hid c40
            refine go_toq PM156 (k := 6) (pc' := 46) (L' := [some (.inr (.inr (some 79))), some (.inr (.inr (some 1017))), some (.inl l24_2), some (.inl l24_3)]) (st' := [.inl ((dt 79 15) + l24_3), .inr (.inr (some 85))]) (w' := (SH, dt)) rfl ?_
            have r41 : 0 ≤ dt 85 (((dt 79 15) + l24_3).toNat) ∧ dt 85 (((dt 79 15) + l24_3).toNat) ≤ 255 := InvC_get hI 85 (((dt 79 15) + l24_3).toNat) rfl rfl
            refine go_smpq PM156 (L' := [some (.inr (.inr (some 79))), some (.inr (.inr (some 1017))), some (.inl l24_2), some (.inl l24_3)]) (st' := [.inl (dt 85 (((dt 79 15) + l24_3).toNat))]) (w' := (SH, dt)) rfl rfl (s_iald (n := 500) (f := dt 85) rfl ⟨by omega, by omega⟩) ?_
            refine go_toq PM156 (k := 2) (pc' := 49) (L' := [some (.inr (.inr (some 79))), some (.inr (.inr (some 1017))), some (.inl l24_2), some (.inl l24_3)]) (st' := [.inl l24_3, .inr (.inr (some 1017)), .inl (dt 85 (((dt 79 15) + l24_3).toNat))]) (w' := (SH, dt)) rfl ?_
            refine go_callq PM156 PM250 (Q' := _) rfl rfl rfl rfl (sp_J0_charAt_5068e_17f L xs sio (d + 0) dt hI  l24_3 (by first | exact bnd i33 (by decide) (by decide) | exact bndd i33 c39 (by decide) (by decide) | exact ⟨by fail, by fail⟩) ) ?_
            rintro _ _ ⟨rfl, h42⟩
            refine ⟨rfl, ?_⟩
            rcases h42 with ⟨v_h42, rfl, h42r, h42⟩
            refine go_ifq PM156 (k := 0) (p1 := 59) (p2 := 55) (L' := [some (.inr (.inr (some 79))), some (.inr (.inr (some 1017))), some (.inl l24_2), some (.inl l24_3)]) (st' := []) (w' := (SH, dt)) rfl (c_ne (a := dt 85 (((dt 79 15) + l24_3).toNat)) (b := v_h42) (by first | exact bnd r41 (by decide) (by decide) | exact ⟨by fail, by fail⟩) (by first | exact bnd h42r (by decide) (by decide) | exact ⟨by fail, by fail⟩)) (fun c43 => ?_) (fun c43 => ?_)
            · skip
              replace c43 := hid c43
              refine go_toq PM156 (k := 4) (pc' := 24) (L' := [some (.inr (.inr (some 79))), some (.inr (.inr (some 1017))), some (.inl 0), some (.inl (l24_3 + 1))]) (st' := []) (w' := (SH, dt)) rfl ?_
              have u45_ := hid (And.intro (unhid i35) (And.intro (unhid i36) (And.intro (unhid c40) (unhid c43))))
              exact GO.le (ih_loop37 0 (l24_3 + 1) (by first | omega | (intro z; first | fail | exact WQ_0 (by fail) (by fail) | exact WM_a ⟨by fail, by fail⟩ (by fail) | exact WQ_s (q1 (by fail)) ⟨by fail, by fail⟩ (mB_in (by fail) (by fail)).symm h42 (by fail) | exact WM_b ⟨by fail, by fail⟩ (by fail) (mB_in (by fail) (by fail)).symm h42 (by fail))) (by first | omega | (intro z; first | fail | exact WQ_0 (by fail) (by fail) | exact WM_a ⟨by fail, by fail⟩ (by fail) | exact WQ_s (q1 (by fail)) ⟨by fail, by fail⟩ (mB_in (by fail) (by fail)).symm h42 (by fail) | exact WM_b ⟨by fail, by fail⟩ (by fail) (mB_in (by fail) (by fail)).symm h42 (by fail))) (by first | omega | (intro z; first | fail | exact WQ_0 (by fail) (by fail) | exact WM_a ⟨by fail, by fail⟩ (by fail) | exact WQ_s (q1 (by fail)) ⟨by fail, by fail⟩ (mB_in (by fail) (by fail)).symm h42 (by fail) | exact WM_b ⟨by fail, by fail⟩ (by fail) (mB_in (by fail) (by fail)).symm h42 (by fail))) (by first | fail | (intro z; first | fail | exact WQ_0 (by fail) (by fail) | exact WM_a ⟨by omega, by omega⟩ (by fail) | exact WQ_s (q1 (by (have z_ := unhid u45_; omega))) ⟨by omega, by omega⟩ (mB_in (by omega) (by omega)).symm h42 (by fail) | exact WM_b ⟨by omega, by omega⟩ (by omega) (mB_in (by omega) (by omega)).symm h42 (by (have z_ := unhid u45_; omega)))) (by first | omega | (intro z; first | fail | exact WQ_0 (by fail) (by fail) | exact WM_a ⟨by fail, by fail⟩ (by fail) | exact WQ_s (q1 (by fail)) ⟨by fail, by fail⟩ (mB_in (by fail) (by fail)).symm h42 (by fail) | exact WM_b ⟨by fail, by fail⟩ (by fail) (mB_in (by fail) (by fail)).symm h42 (by fail))) (by omega)) ⟨.inl rfl, .inl rfl, .inl rfl, .inl rfl, trivial⟩
            · skip
              refine go_toq PM156 (k := 5) (pc' := 24) (L' := [some (.inr (.inr (some 79))), some (.inr (.inr (some 1017))), some (.inl 1), some (.inl (l24_3 + 1))]) (st' := []) (w' := (SH, dt)) rfl ?_
              exact GO.le (ih_loop37 1 (l24_3 + 1) (by first | omega | (intro z; first | fail | exact WQ_0 (by fail) (by fail) | exact WM_a ⟨by fail, by fail⟩ (by fail) | exact WQ_s (q1 (by fail)) ⟨by fail, by fail⟩ (mB_in (by fail) (by fail)).symm h42 (by fail) | exact WM_b ⟨by fail, by fail⟩ (by fail) (mB_in (by fail) (by fail)).symm h42 (by fail))) (by first | omega | (intro z; first | fail | exact WQ_0 (by fail) (by fail) | exact WM_a ⟨by fail, by fail⟩ (by fail) | exact WQ_s (q1 (by fail)) ⟨by fail, by fail⟩ (mB_in (by fail) (by fail)).symm h42 (by fail) | exact WM_b ⟨by fail, by fail⟩ (by fail) (mB_in (by fail) (by fail)).symm h42 (by fail))) (by first | fail | (intro z; first | fail | exact WQ_0 (by omega) (by fail) | exact WM_a ⟨by fail, by fail⟩ (by fail) | exact WQ_s (q1 (by (have z0_ := unhid i35; have z1_ := unhid i36; have z2_ := unhid c40; omega))) ⟨by omega, by omega⟩ (mB_in (by omega) (by omega)).symm h42 (by omega) | exact WM_b ⟨by fail, by fail⟩ (by fail) (mB_in (by fail) (by fail)).symm h42 (by fail))) (by first | omega | (intro z; first | fail | exact WQ_0 (by fail) (by fail) | exact WM_a ⟨by fail, by fail⟩ (by fail) | exact WQ_s (q1 (by fail)) ⟨by fail, by fail⟩ (mB_in (by fail) (by fail)).symm h42 (by fail) | exact WM_b ⟨by fail, by fail⟩ (by fail) (mB_in (by fail) (by fail)).symm h42 (by fail))) (by first | omega | (intro z; first | fail | exact WQ_0 (by fail) (by fail) | exact WM_a ⟨by fail, by fail⟩ (by fail) | exact WQ_s (q1 (by fail)) ⟨by fail, by fail⟩ (mB_in (by fail) (by fail)).symm h42 (by fail) | exact WM_b ⟨by fail, by fail⟩ (by fail) (mB_in (by fail) (by fail)).symm h42 (by fail))) (by omega)) ⟨.inl rfl, .inl rfl, .inl rfl, .inl rfl, trivial⟩
    exact GO.le (loop37 _ 1 0 (by first | omega | (intro z; first | fail | exact WQ_0 (by fail) (by fail) | exact WM_a ⟨by fail, by fail⟩ (by fail) | exact WQ_s (q1 (by fail)) ⟨by fail, by fail⟩ (mB_in (by fail) (by fail)).symm hI (by fail) | exact WM_b ⟨by fail, by fail⟩ (by fail) (mB_in (by fail) (by fail)).symm hI (by fail))) (by first | omega | (intro z; first | fail | exact WQ_0 (by fail) (by fail) | exact WM_a ⟨by fail, by fail⟩ (by fail) | exact WQ_s (q1 (by fail)) ⟨by fail, by fail⟩ (mB_in (by fail) (by fail)).symm hI (by fail) | exact WM_b ⟨by fail, by fail⟩ (by fail) (mB_in (by fail) (by fail)).symm hI (by fail))) (by first | fail | (intro z; first | fail | exact WQ_0 (by omega) (by omega) | exact WM_a ⟨by fail, by fail⟩ (by fail) | exact WQ_s (q1 (by fail)) ⟨by fail, by fail⟩ (mB_in (by fail) (by fail)).symm hI (by fail) | exact WM_b ⟨by fail, by fail⟩ (by fail) (mB_in (by fail) (by fail)).symm hI (by fail))) (by first | omega | (intro z; first | fail | exact WQ_0 (by fail) (by fail) | exact WM_a ⟨by fail, by fail⟩ (by fail) | exact WQ_s (q1 (by fail)) ⟨by fail, by fail⟩ (mB_in (by fail) (by fail)).symm hI (by fail) | exact WM_b ⟨by fail, by fail⟩ (by fail) (mB_in (by fail) (by fail)).symm hI (by fail))) (by first | omega | (intro z; first | fail | exact WQ_0 (by fail) (by fail) | exact WM_a ⟨by fail, by fail⟩ (by fail) | exact WQ_s (q1 (by fail)) ⟨by fail, by fail⟩ (mB_in (by fail) (by fail)).symm hI (by fail) | exact WM_b ⟨by fail, by fail⟩ (by fail) (mB_in (by fail) (by fail)).symm hI (by fail))) (Nat.lt_succ_self _)) ⟨.inl rfl, .inl rfl, .inl rfl, .inl rfl, trivial⟩
theorem sp_J1_charAt_3b067_18f (L : Nat) (xs : Nat → Int32) (sio : Option Nat) (d : Nat) (dt : Nat → Nat → Int) (hI : InvC dt)  (p2 : Int) (h_p2 : 0 ≤ p2 ∧ p2 ≤ 5)  : GO (am_XX L xs sio) (d + 2) 256 0 [some (.inr (.inr (some 2018))), some (.inl p2)] [] (SH, dt) (fun r w2 => w2 = (SH, dt) ∧ ((∃ v : Int, r = some (.inl v) ∧ (0 ≤ v ∧ v ≤ 65535) ∧ (v = (am_Sby.getD 18 []).getD p2.toNat 0)))) := by
  refine go_toq PM256 (k := 3) (pc' := 3) (L' := [some (.inr (.inr (some 2018))), some (.inl p2)]) (st' := [.inl 6, .inl p2]) (w' := (SH, dt)) rfl ?_
  refine go_callq PM256 PM255 (Q' := _) rfl rfl rfl rfl (sp_J0_checkIndex_df160 L xs sio (d + 0) dt hI  p2 (by first | exact h_p2 | exact bnd h_p2 (by decide) (by decide) | exact ⟨by fail, by fail⟩) 6 ⟨by decide, by decide⟩ (by first | exact True.intro | with_reducible assumption | rfl | omega | trivial)) ?_
  rintro _ _ ⟨rfl, h1⟩
  refine ⟨rfl, ?_⟩
  rcases h1 with ⟨rfl, h1⟩
  refine go_toq PM256 (k := 2) (pc' := 8) (L' := [some (.inr (.inr (some 2018))), some (.inl p2)]) (st' := [.inl p2, .inr (.inr (some 2018))]) (w' := (SH, dt)) rfl ?_
  have r2 := sby_R 18 (p2).toNat
  refine go_smpq PM256 (L' := [some (.inr (.inr (some 2018))), some (.inl p2)]) (st' := [.inl ((am_Sby.getD 18 []).getD (p2).toNat 0)]) (w' := (SH, dt)) rfl rfl (s_bald (n := 6) (f := fun q => (am_Sby.getD 18 []).getD q 0) rfl (by first | exact bndx h_p2 (by decide) (by decide) | exact ⟨by fail, by fail⟩)) ?_
  have r3 : 0 ≤ am_and ((am_Sby.getD 18 []).getD (p2).toNat 0) 255 ∧ am_and ((am_Sby.getD 18 []).getD (p2).toNat 0) 255 ≤ 255 := and_R255
  have r4 := i2c_R (am_and ((am_Sby.getD 18 []).getD (p2).toNat 0) 255)
  refine go_toq PM256 (k := 3) (pc' := 14) (L' := [some (.inr (.inr (some 2018))), some (.inl p2)]) (st' := [.inl (am_i2c (am_and ((am_Sby.getD 18 []).getD (p2).toNat 0) 255))]) (w' := (SH, dt)) rfl ?_
  refine go_retvq PM256 (v := am_i2c (am_and ((am_Sby.getD 18 []).getD (p2).toNat 0) 255)) rfl (decide_eq_true (show 0 ≤ am_i2c (am_and ((am_Sby.getD 18 []).getD (p2).toNat 0) 255) ∧ am_i2c (am_and ((am_Sby.getD 18 []).getD (p2).toNat 0) 255) < 65536 by omega)) ?_
  exact ⟨rfl, ⟨_, rfl, ⟨by omega, by omega⟩, by exact ic_id ⟨by omega, by omega⟩⟩⟩
theorem sp_J0_charAt_5068e_18f (L : Nat) (xs : Nat → Int32) (sio : Option Nat) (d : Nat) (dt : Nat → Nat → Int) (hI : InvC dt)  (p1 : Int) (h_p1 : 0 ≤ p1 ∧ p1 ≤ 5)  : GO (am_XX L xs sio) (d + 3) 250 0 [some (.inr (.inr (some 1018))), some (.inl p1)] [] (SH, dt) (fun r w2 => w2 = (SH, dt) ∧ ((∃ v : Int, r = some (.inl v) ∧ (0 ≤ v ∧ v ≤ 65535) ∧ (v = (am_Sby.getD 18 []).getD p1.toNat 0)))) := by
  refine go_toq PM250 (k := 1) (pc' := 1) (L' := [some (.inr (.inr (some 1018))), some (.inl p1)]) (st' := [.inr (.inr (some 1018))]) (w' := (SH, dt)) rfl ?_
  refine go_callq PM250 PM254 (Q' := _) rfl rfl rfl rfl (sp_J0_isLatin1_aae02_1018 L xs sio (d + 2) dt hI   ) ?_
  rintro _ _ ⟨rfl, h1⟩
  refine ⟨rfl, ?_⟩
  rcases h1 with ⟨rfl, h1⟩
  refine go_toq PM250 (k := 4) (pc' := 12) (L' := [some (.inr (.inr (some 1018))), some (.inl p1)]) (st' := [.inl p1, .inr (.inr (some 2018))]) (w' := (SH, dt)) rfl ?_
  refine go_callq PM250 PM256 (Q' := _) rfl rfl rfl rfl (sp_J1_charAt_3b067_18f L xs sio (d + 0) dt hI  p1 (by first | exact h_p1 | exact bnd h_p1 (by decide) (by decide) | exact ⟨by fail, by fail⟩) ) ?_
  rintro _ _ ⟨rfl, h2⟩
  refine ⟨rfl, ?_⟩
  rcases h2 with ⟨v_h2, rfl, h2r, h2⟩
  refine go_retvq PM250 (v := v_h2) rfl (decide_eq_true (show 0 ≤ v_h2 ∧ v_h2 < 65536 by omega)) ?_
  exact ⟨rfl, ⟨_, rfl, ⟨by omega, by omega⟩, by first | exact True.intro | with_reducible assumption | rfl | fail | trivial⟩⟩
set_option maxRecDepth 20000 in
theorem sp_X6_is_18f (L : Nat) (xs : Nat → Int32) (sio : Option Nat) (d : Nat) (dt : Nat → Nat → Int) (hI : InvC dt)   (h_p0 : dt 79 13 ≤ 500) (h_p1 : dt 79 15 ≤ dt 79 13) (h_p2 : dt 79 13 ≤ dt 79 12) : GO (am_XX L xs sio) (d + 4) 156 0 [some (.inr (.inr (some 79))), some (.inr (.inr (some 1018))), none, none] [] (SH, dt) (fun r w2 => w2 = (SH, dt) ∧ ((∃ v : Int, r = some (.inl v) ∧ (0 ≤ v ∧ v ≤ 1) ∧ (v = wm (am_Sby.getD 18 []) (mB (dt 85) (dt 79 12)) (dt 79 15).toNat (dt 79 13).toNat)))) := by
  have r1 : 0 ≤ dt 79 13 ∧ dt 79 13 ≤ 501 := InvC_get hI 79 13 rfl rfl
  have r2 : 0 ≤ dt 79 15 ∧ dt 79 15 ≤ 500 := InvC_get hI 79 15 rfl rfl
  have r3 : 0 ≤ dt 79 12 ∧ dt 79 12 ≤ 500 := InvC_get hI 79 12 rfl rfl
  have hlen : (((am_Sby.getD 18 []).length : Nat) : Int) = 6 := rfl
  refine go_toq PM156 (k := 6) (pc' := 10) (L' := [some (.inr (.inr (some 79))), some (.inr (.inr (some 1018))), none, none]) (st' := [.inr (.inr (some 1018)), .inl ((dt 79 13) - (dt 79 15))]) (w' := (SH, dt)) rfl ?_
  refine go_callq PM156 PM249 (Q' := _) rfl rfl rfl rfl (sp_J0_length_8abf5_1018 L xs sio (d + 2) dt hI   ) ?_
  rintro _ _ ⟨rfl, h4⟩
  refine ⟨rfl, ?_⟩
  rcases h4 with ⟨rfl, h4⟩
  refine go_ifq PM156 (k := 0) (p1 := 20) (p2 := 16) (L' := [some (.inr (.inr (some 79))), some (.inr (.inr (some 1018))), none, none]) (st' := []) (w' := (SH, dt)) rfl (c_ne (a := (dt 79 13) - (dt 79 15)) (b := 6) ⟨by omega, by omega⟩ ⟨by decide, by decide⟩) (fun c5 => ?_) (fun c5 => ?_)
  · skip
    replace c5 := hid c5
    refine go_toq PM156 (k := 4) (pc' := 24) (L' := [some (.inr (.inr (some 79))), some (.inr (.inr (some 1018))), some (.inl 0), some (.inl 0)]) (st' := []) (w' := (SH, dt)) rfl ?_
    have loop18 : ∀ (k_ : Nat) (l24_2 : Int) (l24_3 : Int) (i13 : 0 ≤ l24_2 ∧ l24_2 ≤ 1) (i14 : 0 ≤ l24_3 ∧ l24_3 ≤ 6) (i15 : l24_2 = 1 → WQ (am_Sby.getD 18 []) (dt 79 13 - dt 79 15) (mB (dt 85) (dt 79 12)) (dt 79 15) l24_3) (i16 : l24_2 = 0 → wm (am_Sby.getD 18 []) (mB (dt 85) (dt 79 12)) (dt 79 15).toNat (dt 79 13).toNat = 0) (i17 : l24_2 = 0 ∨ dt 79 13 - dt 79 15 = 6), (7 - l24_3).toNat < k_ → GO (am_XX L xs sio) (d + 4) 156 24 [some (.inr (.inr (some 79))), some (.inr (.inr (some 1018))), some (.inl l24_2), some (.inl l24_3)] [] (SH, dt) (fun r w2 => w2 = (SH, dt) ∧ ((∃ v : Int, r = some (.inl v) ∧ (0 ≤ v ∧ v ≤ 1) ∧ (v = wm (am_Sby.getD 18 []) (mB (dt 85) (dt 79 12)) (dt 79 15).toNat (dt 79 13).toNat)))) := by
      intro k_
      induction k_ with
      | zero => intro l24_2 l24_3 i13 i14 i15 i16 i17 hm; exact absurd hm (Nat.not_lt_zero _)
      | succ k_ ih_loop18 =>
        intro l24_2 l24_3 i13 i14 i15 i16 i17 hm
        replace i15 := hid i15
        replace i16 := hid i16
        replace i17 := hid i17
        have q1 := i15
        have q2 := i16
        refine go_toq PM156 (k := 2) (pc' := 26) (L' := [some (.inr (.inr (some 79))), some (.inr (.inr (some 1018))), some (.inl l24_2), some (.inl l24_3)]) (st' := [.inr (.inr (some 1018)), .inl l24_3]) (w' := (SH, dt)) rfl ?_
        refine go_callq PM156 PM249 (Q' := _) rfl rfl rfl rfl (sp_J0_length_8abf5_1018 L xs sio (d + 2) dt hI   ) ?_
        rintro _ _ ⟨rfl, h19⟩
        refine ⟨rfl, ?_⟩
        rcases h19 with ⟨rfl, h19⟩
        refine go_ifq PM156 (k := 0) (p1 := 67) (p2 := 32) (L' := [some (.inr (.inr (some 79))), some (.inr (.inr (some 1018))), some (.inl l24_2), some (.inl l24_3)]) (st' := []) (w' := (SH, dt)) rfl (c_ge (a := l24_3) (b := 6) (by first | exact bnd i14 (by decide) (by decide) | exact ⟨by fail, by fail⟩) ⟨by decide, by decide⟩) (fun c20 => ?_) (fun c20 => ?_)
        · skip
          refine go_toq PM156 (k := 1) (pc' := 68) (L' := [some (.inr (.inr (some 79))), some (.inr (.inr (some 1018))), some (.inl l24_2), some (.inl l24_3)]) (st' := [.inl l24_2]) (w' := (SH, dt)) rfl ?_
          refine go_retvq PM156 (v := l24_2) rfl (decide_eq_true (show l24_2 = 0 ∨ l24_2 = 1 by omega)) ?_
          exact ⟨rfl, ⟨_, rfl, ⟨by omega, by omega⟩, by rcases (show l24_2 = 0 ∨ l24_2 = 1 by omega) with z | z <;> first | (rw [q2 z]; exact z) | (rw [WM_1 (q1 z) ⟨by omega, by omega⟩ (by omega)]; exact z)⟩⟩
        · skip
          refine go_ifq PM156 (k := 1) (p1 := 67) (p2 := 36) (L' := [some (.inr (.inr (some 79))), some (.inr (.inr (some 1018))), some (.inl l24_2), some (.inl l24_3)]) (st' := []) (w' := (SH, dt)) rfl (z_eq (a := l24_2) (by first | exact bnd i13 (by decide) (by decide) | exact ⟨by fail, by fail⟩)) (fun c21 => ?_) (fun c21 => ?_)
          · skip
            refine go_toq PM156 (k := 1) (pc' := 68) (L' := [some (.inr (.inr (some 79))), some (.inr (.inr (some 1018))), some (.inl l24_2), some (.inl l24_3)]) (st' := [.inl l24_2]) (w' := (SH, dt)) rfl ?_
            refine go_retvq PM156 (v := l24_2) rfl (decide_eq_true (show l24_2 = 0 ∨ l24_2 = 1 by omega)) ?_
            exact ⟨rfl, ⟨_, rfl, ⟨by omega, by omega⟩, by rcases (show l24_2 = 0 ∨ l24_2 = 1 by omega) with z | z <;> first | (rw [q2 z]; exact z) | (rw [WM_1 (q1 z) ⟨by omega, by omega⟩ (by omega)]; exact z)⟩⟩
          · skip
            replace c21 := hid c21
            refine go_toq PM156 (k := 6) (pc' := 46) (L' := [some (.inr (.inr (some 79))), some (.inr (.inr (some 1018))), some (.inl l24_2), some (.inl l24_3)]) (st' := [.inl ((dt 79 15) + l24_3), .inr (.inr (some 85))]) (w' := (SH, dt)) rfl ?_
            have r22 : 0 ≤ dt 85 (((dt 79 15) + l24_3).toNat) ∧ dt 85 (((dt 79 15) + l24_3).toNat) ≤ 255 := InvC_get hI 85 (((dt 79 15) + l24_3).toNat) rfl rfl
            have u46_ := hid (And.intro (unhid c5) (And.intro (unhid i16) (And.intro (unhid i17) (unhid c21))))
            refine go_smpq PM156 (L' := [some (.inr (.inr (some 79))), some (.inr (.inr (some 1018))), some (.inl l24_2), some (.inl l24_3)]) (st' := [.inl (dt 85 (((dt 79 15) + l24_3).toNat))]) (w' := (SH, dt)) rfl rfl (s_iald (n := 500) (f := dt 85) rfl ⟨by omega, by (have z_ := unhid u46_; omega)⟩) ?_
            refine go_toq PM156 (k := 2) (pc' := 49) (L' := [some (.inr (.inr (some 79))), some (.inr (.inr (some 1018))), some (.inl l24_2), some (.inl l24_3)]) (st' := [.inl l24_3, .inr (.inr (some 1018)), .inl (dt 85 (((dt 79 15) + l24_3).toNat))]) (w' := (SH, dt)) rfl ?_
            refine go_callq PM156 PM250 (Q' := _) rfl rfl rfl rfl (sp_J0_charAt_5068e_18f L xs sio (d + 0) dt hI  l24_3 (by first | exact bnd i14 (by decide) (by decide) | exact bndd i14 c20 (by decide) (by decide) | exact ⟨by fail, by fail⟩) ) ?_
            rintro _ _ ⟨rfl, h23⟩
            refine ⟨rfl, ?_⟩
            rcases h23 with ⟨v_h23, rfl, h23r, h23⟩
            refine go_ifq PM156 (k := 0) (p1 := 59) (p2 := 55) (L' := [some (.inr (.inr (some 79))), some (.inr (.inr (some 1018))), some (.inl l24_2), some (.inl l24_3)]) (st' := []) (w' := (SH, dt)) rfl (c_ne (a := dt 85 (((dt 79 15) + l24_3).toNat)) (b := v_h23) (by first | exact bnd r22 (by decide) (by decide) | exact ⟨by fail, by fail⟩) (by first | exact bnd h23r (by decide) (by decide) | exact ⟨by fail, by fail⟩)) (fun c24 => ?_) (fun c24 => ?_)
            · skip
              replace c24 := hid c24
              refine go_toq PM156 (k := 4) (pc' := 24) (L' := [some (.inr (.inr (some 79))), some (.inr (.inr (some 1018))), some (.inl 0), some (.inl (l24_3 + 1))]) (st' := []) (w' := (SH, dt)) rfl ?_
              have u47_ := hid (And.intro (unhid c5) (And.intro (unhid i16) (And.intro (unhid i17) (And.intro (unhid c21) (unhid c24)))))
              exact GO.le (ih_loop18 0 (l24_3 + 1) (by first | omega | (intro z; first | fail | exact WQ_0 (by fail) (by fail) | exact WM_a ⟨by fail, by fail⟩ (by fail) | exact WQ_s (q1 (by fail)) ⟨by fail, by fail⟩ (mB_in (by fail) (by fail)).symm h23 (by fail) | exact WM_b ⟨by fail, by fail⟩ (by fail) (mB_in (by fail) (by fail)).symm h23 (by fail))) (by first | omega | (intro z; first | fail | exact WQ_0 (by fail) (by fail) | exact WM_a ⟨by fail, by fail⟩ (by fail) | exact WQ_s (q1 (by fail)) ⟨by fail, by fail⟩ (mB_in (by fail) (by fail)).symm h23 (by fail) | exact WM_b ⟨by fail, by fail⟩ (by fail) (mB_in (by fail) (by fail)).symm h23 (by fail))) (by first | omega | (intro z; first | fail | exact WQ_0 (by fail) (by fail) | exact WM_a ⟨by fail, by fail⟩ (by fail) | exact WQ_s (q1 (by fail)) ⟨by fail, by fail⟩ (mB_in (by fail) (by fail)).symm h23 (by fail) | exact WM_b ⟨by fail, by fail⟩ (by fail) (mB_in (by fail) (by fail)).symm h23 (by fail))) (by first | (have z_ := unhid u47_; omega) | (intro z; first | fail | exact WQ_0 (by fail) (by fail) | exact WM_a ⟨by fail, by fail⟩ (by fail) | exact WQ_s (q1 (by fail)) ⟨by fail, by fail⟩ (mB_in (by fail) (by fail)).symm h23 (by fail) | exact WM_b ⟨by fail, by fail⟩ (by fail) (mB_in (by fail) (by fail)).symm h23 (by fail))) (by first | omega | (intro z; first | fail | exact WQ_0 (by fail) (by fail) | exact WM_a ⟨by fail, by fail⟩ (by fail) | exact WQ_s (q1 (by fail)) ⟨by fail, by fail⟩ (mB_in (by fail) (by fail)).symm h23 (by fail) | exact WM_b ⟨by fail, by fail⟩ (by fail) (mB_in (by fail) (by fail)).symm h23 (by fail))) (by omega)) ⟨.inl rfl, .inl rfl, .inl rfl, .inl rfl, trivial⟩
            · skip
              refine go_toq PM156 (k := 5) (pc' := 24) (L' := [some (.inr (.inr (some 79))), some (.inr (.inr (some 1018))), some (.inl 1), some (.inl (l24_3 + 1))]) (st' := []) (w' := (SH, dt)) rfl ?_
              exact GO.le (ih_loop18 1 (l24_3 + 1) (by first | omega | (intro z; first | fail | exact WQ_0 (by fail) (by fail) | exact WM_a ⟨by fail, by fail⟩ (by fail) | exact WQ_s (q1 (by fail)) ⟨by fail, by fail⟩ (mB_in (by fail) (by fail)).symm h23 (by fail) | exact WM_b ⟨by fail, by fail⟩ (by fail) (mB_in (by fail) (by fail)).symm h23 (by fail))) (by first | omega | (intro z; first | fail | exact WQ_0 (by fail) (by fail) | exact WM_a ⟨by fail, by fail⟩ (by fail) | exact WQ_s (q1 (by fail)) ⟨by fail, by fail⟩ (mB_in (by fail) (by fail)).symm h23 (by fail) | exact WM_b ⟨by fail, by fail⟩ (by fail) (mB_in (by fail) (by fail)).symm h23 (by fail))) (by first | (have z_ := unhid u46_; omega) | (intro z; first | fail | exact WQ_0 (by fail) (by fail) | exact WM_a ⟨by fail, by fail⟩ (by fail) | exact WQ_s (q1 (by fail)) ⟨by fail, by fail⟩ (mB_in (by fail) (by fail)).symm h23 (by fail) | exact WM_b ⟨by fail, by fail⟩ (by fail) (mB_in (by fail) (by fail)).symm h23 (by fail))) (by first | omega | (intro z; first | fail | exact WQ_0 (by fail) (by fail) | exact WM_a ⟨by fail, by fail⟩ (by fail) | exact WQ_s (q1 (by fail)) ⟨by fail, by fail⟩ (mB_in (by fail) (by fail)).symm h23 (by fail) | exact WM_b ⟨by fail, by fail⟩ (by fail) (mB_in (by fail) (by fail)).symm h23 (by fail))) (by first | (have z_ := unhid u46_; omega) | (intro z; first | fail | exact WQ_0 (by fail) (by fail) | exact WM_a ⟨by fail, by fail⟩ (by fail) | exact WQ_s (q1 (by fail)) ⟨by fail, by fail⟩ (mB_in (by fail) (by fail)).symm h23 (by fail) | exact WM_b ⟨by fail, by fail⟩ (by fail) (mB_in (by fail) (by fail)).symm h23 (by fail))) (by omega)) ⟨.inl rfl, .inl rfl, .inl rfl, .inl rfl, trivial⟩
    exact GO.le (loop18 _ 0 0 (by first | omega | (intro z; first | fail | exact WQ_0 (by fail) (by fail) | exact WM_a ⟨by fail, by fail⟩ (by fail) | exact WQ_s (q1 (by fail)) ⟨by fail, by fail⟩ (mB_in (by fail) (by fail)).symm hI (by fail) | exact WM_b ⟨by fail, by fail⟩ (by fail) (mB_in (by fail) (by fail)).symm hI (by fail))) (by first | omega | (intro z; first | fail | exact WQ_0 (by fail) (by fail) | exact WM_a ⟨by fail, by fail⟩ (by fail) | exact WQ_s (q1 (by fail)) ⟨by fail, by fail⟩ (mB_in (by fail) (by fail)).symm hI (by fail) | exact WM_b ⟨by fail, by fail⟩ (by fail) (mB_in (by fail) (by fail)).symm hI (by fail))) (by first | omega | (intro z; first | fail | exact WQ_0 (by fail) (by fail) | exact WM_a ⟨by fail, by fail⟩ (by fail) | exact WQ_s (q1 (by fail)) ⟨by fail, by fail⟩ (mB_in (by fail) (by fail)).symm hI (by fail) | exact WM_b ⟨by fail, by fail⟩ (by fail) (mB_in (by fail) (by fail)).symm hI (by fail))) (by first | fail | (intro z; first | fail | exact WQ_0 (by fail) (by fail) | exact WM_a ⟨by omega, by omega⟩ (by (have z0_ := unhid c5; omega)) | exact WQ_s (q1 (by fail)) ⟨by fail, by fail⟩ (mB_in (by fail) (by fail)).symm hI (by fail) | exact WM_b ⟨by fail, by fail⟩ (by fail) (mB_in (by fail) (by fail)).symm hI (by fail))) (by first | omega | (intro z; first | fail | exact WQ_0 (by fail) (by fail) | exact WM_a ⟨by fail, by fail⟩ (by fail) | exact WQ_s (q1 (by fail)) ⟨by fail, by fail⟩ (mB_in (by fail) (by fail)).symm hI (by fail) | exact WM_b ⟨by fail, by fail⟩ (by fail) (mB_in (by fail) (by fail)).symm hI (by fail))) (Nat.lt_succ_self _)) ⟨.inl rfl, .inl rfl, .inl rfl, .inl rfl, trivial⟩
  · skip
    refine go_toq PM156 (k := 5) (pc' := 24) (L' := [some (.inr (.inr (some 79))), some (.inr (.inr (some 1018))), some (.inl 1), some (.inl 0)]) (st' := []) (w' := (SH, dt)) rfl ?_
    have loop37 : ∀ (k_ : Nat) (l24_2 : Int) (l24_3 : Int) (i32 : 0 ≤ l24_2 ∧ l24_2 ≤ 1) (i33 : 0 ≤ l24_3 ∧ l24_3 ≤ 6) (i34 : l24_2 = 1 → WQ (am_Sby.getD 18 []) (dt 79 13 - dt 79 15) (mB (dt 85) (dt 79 12)) (dt 79 15) l24_3) (i35 : l24_2 = 0 → wm (am_Sby.getD 18 []) (mB (dt 85) (dt 79 12)) (dt 79 15).toNat (dt 79 13).toNat = 0) (i36 : l24_2 = 0 ∨ dt 79 13 - dt 79 15 = 6), (7 - l24_3).toNat < k_ → GO (am_XX L xs sio) (d + 4) 156 24 [some (.inr (.inr (some 79))), some (.inr (.inr (some 1018))), some (.inl l24_2), some (.inl l24_3)] [] (SH, dt) (fun r w2 => w2 = (SH, dt) ∧ ((∃ v : Int, r = some (.inl v) ∧ (0 ≤ v ∧ v ≤ 1) ∧ (v = wm (am_Sby.getD 18 []) (mB (dt 85) (dt 79 12)) (dt 79 15).toNat (dt 79 13).toNat)))) := by
      intro k_
      induction k_ with
      | zero => intro l24_2 l24_3 i32 i33 i34 i35 i36 hm; exact absurd hm (Nat.not_lt_zero _)
      | succ k_ ih_loop37 =>
        intro l24_2 l24_3 i32 i33 i34 i35 i36 hm
        replace i34 := hid i34
        replace i35 := hid i35
        replace i36 := hid i36
        have q1 := i34
        have q2 := i35
        refine go_toq PM156 (k := 2) (pc' := 26) (L' := [some (.inr (.inr (some 79))), some (.inr (.inr (some 1018))), some (.inl l24_2), some (.inl l24_3)]) (st' := [.inr (.inr (some 1018)), .inl l24_3]) (w' := (SH, dt)) rfl ?_
        refine go_callq PM156 PM249 (Q' := _) rfl rfl rfl rfl (sp_J0_length_8abf5_1018 L xs sio (d + 2) dt hI   ) ?_
        rintro _ _ ⟨rfl, h38⟩
        refine ⟨rfl, ?_⟩
        rcases h38 with ⟨rfl, h38⟩
        refine go_ifq PM156 (k := 0) (p1 := 67) (p2 := 32) (L' := [some (.inr (.inr (some 79))), some (.inr (.inr (some 1018))), some (.inl l24_2), some (.inl l24_3)]) (st' := []) (w' := (SH, dt)) rfl (c_ge (a := l24_3) (b := 6) (by first | exact bnd i33 (by decide) (by decide) | exact ⟨by fail, by fail⟩) ⟨by decide, by decide⟩) (fun c39 => ?_) (fun c39 => ?_)
        · skip
          refine go_toq PM156 (k := 1) (pc' := 68) (L' := [some (.inr (.inr (some 79))), some (.inr (.inr (some 1018))), some (.inl l24_2), some (.inl l24_3)]) (st' := [.inl l24_2]) (w' := (SH, dt)) rfl ?_
          refine go_retvq PM156 (v := l24_2) rfl (decide_eq_true (show l24_2 = 0 ∨ l24_2 = 1 by omega)) ?_
          exact ⟨rfl, ⟨_, rfl, ⟨by omega, by omega⟩, by rcases (show l24_2 = 0 ∨ l24_2 = 1 by omega) with z | z <;> first | (rw [q2 z]; exact z) | (rw [WM_1 (q1 z) ⟨by omega, by omega⟩ (by omega)]; exact z)⟩⟩
        · skip
          refine go_ifq PM156 (k := 1) (p1 := 67) (p2 := 36) (L' := [some (.inr (.inr (some 79))), some (.inr (.inr (some 1018))), some (.inl l24_2), some (.inl l24_3)]) (st' := []) (w' := (SH, dt)) rfl (z_eq (a := l24_2) (by first | exact bnd i32 (by decide) (by decide) | exact ⟨by fail, by fail⟩)) (fun c40 => ?_) (fun c40 => ?_)
          · skip
            refine go_toq PM156 (k := 1) (pc' := 68) (L' := [some (.inr (.inr (some 79))), some (.inr (.inr (some 1018))), some (.inl l24_2), some (.inl l24_3)]) (st' := [.inl l24_2]) (w' := (SH, dt)) rfl ?_
            refine go_retvq PM156 (v := l24_2) rfl (decide_eq_true (show l24_2 = 0 ∨ l24_2 = 1 by omega)) ?_
            exact ⟨rfl, ⟨_, rfl, ⟨by omega, by omega⟩, by rcases (show l24_2 = 0 ∨ l24_2 = 1 by omega) with z | z <;> first | (rw [q2 z]; exact z) | (rw [WM_1 (q1 z) ⟨by omega, by omega⟩ (by omega)]; exact z)⟩⟩
          · skip
            replace c40 := hid c40
            refine go_toq PM156 (k := 6) (pc' := 46) (L' := [some (.inr (.inr (some 79))), some (.inr (.inr (some 1018))), some (.inl l24_2), some (.inl l24_3)]) (st' := [.inl ((dt 79 15) + l24_3), .inr (.inr (some 85))]) (w' := (SH, dt)) rfl ?_
            have r41 : 0 ≤ dt 85 (((dt 79 15) + l24_3).toNat) ∧ dt 85 (((dt 79 15) + l24_3).toNat) ≤ 255 := InvC_get hI 85 (((dt 79 15) + l24_3).toNat) rfl rfl
            refine go_smpq PM156 (L' := [some (.inr (.inr (some 79))), some (.inr (.inr (some 1018))), some (.inl l24_2), some (.inl l24_3)]) (st' := [.inl (dt 85 (((dt 79 15) + l24_3).toNat))]) (w' := (SH, dt)) rfl rfl (s_iald (n := 500) (f := dt 85) rfl ⟨by omega, by omega⟩) ?_
            refine go_toq PM156 (k := 2) (pc' := 49) (L' := [some (.inr (.inr (some 79))), some (.inr (.inr (some 1018))), some (.inl l24_2), some (.inl l24_3)]) (st' := [.inl l24_3, .inr (.inr (some 1018)), .inl (dt 85 (((dt 79 15) + l24_3).toNat))]) (w' := (SH, dt)) rfl ?_
            refine go_callq PM156 PM250 (Q' := _) rfl rfl rfl rfl (sp_J0_charAt_5068e_18f L xs sio (d + 0) dt hI  l24_3 (by first | exact bnd i33 (by decide) (by decide) | exact bndd i33 c39 (by decide) (by decide) | exact ⟨by fail, by fail⟩) ) ?_
            rintro _ _ ⟨rfl, h42⟩
            refine ⟨rfl, ?_⟩
            rcases h42 with ⟨v_h42, rfl, h42r, h42⟩
            refine go_ifq PM156 (k := 0) (p1 := 59) (p2 := 55) (L' := [some (.inr (.inr (some 79))), some (.inr (.inr (some 1018))), some (.inl l24_2), some (.inl l24_3)]) (st' := []) (w' := (SH, dt)) rfl (c_ne (a := dt 85 (((dt 79 15) + l24_3).toNat)) (b := v_h42) (by first | exact bnd r41 (by decide) (by decide) | exact ⟨by fail, by fail⟩) (by first | exact bnd h42r (by decide) (by decide) | exact ⟨by fail, by fail⟩)) (fun c43 => ?_) (fun c43 => ?_)
            · skip
              replace c43 := hid c43
              refine go_toq PM156 (k := 4) (pc' := 24) (L' := [some (.inr (.inr (some 79))), some (.inr (.inr (some 1018))), some (.inl 0), some (.inl (l24_3 + 1))]) (st' := []) (w' := (SH, dt)) rfl ?_
              have u48_ := hid (And.intro (unhid i35) (And.intro (unhid i36) (And.intro (unhid c40) (unhid c43))))
              exact GO.le (ih_loop37 0 (l24_3 + 1) (by first | omega | (intro z; first | fail | exact WQ_0 (by fail) (by fail) | exact WM_a ⟨by fail, by fail⟩ (by fail) | exact WQ_s (q1 (by fail)) ⟨by fail, by fail⟩ (mB_in (by fail) (by fail)).symm h42 (by fail) | exact WM_b ⟨by fail, by fail⟩ (by fail) (mB_in (by fail) (by fail)).symm h42 (by fail))) (by first | omega | (intro z; first | fail | exact WQ_0 (by fail) (by fail) | exact WM_a ⟨by fail, by fail⟩ (by fail) | exact WQ_s (q1 (by fail)) ⟨by fail, by fail⟩ (mB_in (by fail) (by fail)).symm h42 (by fail) | exact WM_b ⟨by fail, by fail⟩ (by fail) (mB_in (by fail) (by fail)).symm h42 (by fail))) (by first | omega | (intro z; first | fail | exact WQ_0 (by fail) (by fail) | exact WM_a ⟨by fail, by fail⟩ (by fail) | exact WQ_s (q1 (by fail)) ⟨by fail, by fail⟩ (mB_in (by fail) (by fail)).symm h42 (by fail) | exact WM_b ⟨by fail, by fail⟩ (by fail) (mB_in (by fail) (by fail)).symm h42 (by fail))) (by first | fail | (intro z; first | fail | exact WQ_0 (by fail) (by fail) | exact WM_a ⟨by omega, by omega⟩ (by fail) | exact WQ_s (q1 (by (have z_ := unhid u48_; omega))) ⟨by omega, by omega⟩ (mB_in (by omega) (by omega)).symm h42 (by fail) | exact WM_b ⟨by omega, by omega⟩ (by omega) (mB_in (by omega) (by omega)).symm h42 (by (have z_ := unhid u48_; omega)))) (by first | omega | (intro z; first | fail | exact WQ_0 (by fail) (by fail) | exact WM_a ⟨by fail, by fail⟩ (by fail) | exact WQ_s (q1 (by fail)) ⟨by fail, by fail⟩ (mB_in (by fail) (by fail)).symm h42 (by fail) | exact WM_b ⟨by fail, by fail⟩ (by fail) (mB_in (by fail) (by fail)).symm h42 (by fail))) (by omega)) ⟨.inl rfl, .inl rfl, .inl rfl, .inl rfl, trivial⟩
            · skip
              refine go_toq PM156 (k := 5) (pc' := 24) (L' := [some (.inr (.inr (some 79))), some (.inr (.inr (some 1018))), some (.inl 1), some (.inl (l24_3 + 1))]) (st' := []) (w' := (SH, dt)) rfl ?_
              exact GO.le (ih_loop37 1 (l24_3 + 1) (by first | omega | (intro z; first | fail | exact WQ_0 (by fail) (by fail) | exact WM_a ⟨by fail, by fail⟩ (by fail) | exact WQ_s (q1 (by fail)) ⟨by fail, by fail⟩ (mB_in (by fail) (by fail)).symm h42 (by fail) | exact WM_b ⟨by fail, by fail⟩ (by fail) (mB_in (by fail) (by fail)).symm h42 (by fail))) (by first | omega | (intro z; first | fail | exact WQ_0 (by fail) (by fail) | exact WM_a ⟨by fail, by fail⟩ (by fail) | exact WQ_s (q1 (by fail)) ⟨by fail, by fail⟩ (mB_in (by fail) (by fail)).symm h42 (by fail) | exact WM_b ⟨by fail, by fail⟩ (by fail) (mB_in (by fail) (by fail)).symm h42 (by fail))) (by first | fail | (intro z; first | fail | exact WQ_0 (by omega) (by fail) | exact WM_a ⟨by fail, by fail⟩ (by fail) | exact WQ_s (q1 (by (have z0_ := unhid i35; have z1_ := unhid i36; have z2_ := unhid c40; omega))) ⟨by omega, by omega⟩ (mB_in (by omega) (by omega)).symm h42 (by omega) | exact WM_b ⟨by fail, by fail⟩ (by fail) (mB_in (by fail) (by fail)).symm h42 (by fail))) (by first | omega | (intro z; first | fail | exact WQ_0 (by fail) (by fail) | exact WM_a ⟨by fail, by fail⟩ (by fail) | exact WQ_s (q1 (by fail)) ⟨by fail, by fail⟩ (mB_in (by fail) (by fail)).symm h42 (by fail) | exact WM_b ⟨by fail, by fail⟩ (by fail) (mB_in (by fail) (by fail)).symm h42 (by fail))) (by first | omega | (intro z; first | fail | exact WQ_0 (by fail) (by fail) | exact WM_a ⟨by fail, by fail⟩ (by fail) | exact WQ_s (q1 (by fail)) ⟨by fail, by fail⟩ (mB_in (by fail) (by fail)).symm h42 (by fail) | exact WM_b ⟨by fail, by fail⟩ (by fail) (mB_in (by fail) (by fail)).symm h42 (by fail))) (by omega)) ⟨.inl rfl, .inl rfl, .inl rfl, .inl rfl, trivial⟩
    exact GO.le (loop37 _ 1 0 (by first | omega | (intro z; first | fail | exact WQ_0 (by fail) (by fail) | exact WM_a ⟨by fail, by fail⟩ (by fail) | exact WQ_s (q1 (by fail)) ⟨by fail, by fail⟩ (mB_in (by fail) (by fail)).symm hI (by fail) | exact WM_b ⟨by fail, by fail⟩ (by fail) (mB_in (by fail) (by fail)).symm hI (by fail))) (by first | omega | (intro z; first | fail | exact WQ_0 (by fail) (by fail) | exact WM_a ⟨by fail, by fail⟩ (by fail) | exact WQ_s (q1 (by fail)) ⟨by fail, by fail⟩ (mB_in (by fail) (by fail)).symm hI (by fail) | exact WM_b ⟨by fail, by fail⟩ (by fail) (mB_in (by fail) (by fail)).symm hI (by fail))) (by first | fail | (intro z; first | fail | exact WQ_0 (by omega) (by omega) | exact WM_a ⟨by fail, by fail⟩ (by fail) | exact WQ_s (q1 (by fail)) ⟨by fail, by fail⟩ (mB_in (by fail) (by fail)).symm hI (by fail) | exact WM_b ⟨by fail, by fail⟩ (by fail) (mB_in (by fail) (by fail)).symm hI (by fail))) (by first | omega | (intro z; first | fail | exact WQ_0 (by fail) (by fail) | exact WM_a ⟨by fail, by fail⟩ (by fail) | exact WQ_s (q1 (by fail)) ⟨by fail, by fail⟩ (mB_in (by fail) (by fail)).symm hI (by fail) | exact WM_b ⟨by fail, by fail⟩ (by fail) (mB_in (by fail) (by fail)).symm hI (by fail))) (by first | omega | (intro z; first | fail | exact WQ_0 (by fail) (by fail) | exact WM_a ⟨by fail, by fail⟩ (by fail) | exact WQ_s (q1 (by fail)) ⟨by fail, by fail⟩ (mB_in (by fail) (by fail)).symm hI (by fail) | exact WM_b ⟨by fail, by fail⟩ (by fail) (mB_in (by fail) (by fail)).symm hI (by fail))) (Nat.lt_succ_self _)) ⟨.inl rfl, .inl rfl, .inl rfl, .inl rfl, trivial⟩
theorem sp_J1_charAt_3b067_19f (L : Nat) (xs : Nat → Int32) (sio : Option Nat) (d : Nat) (dt : Nat → Nat → Int) (hI : InvC dt)  (p2 : Int) (h_p2 : 0 ≤ p2 ∧ p2 ≤ 4)  : GO (am_XX L xs sio) (d + 2) 256 0 [some (.inr (.inr (some 2019))), some (.inl p2)] [] (SH, dt) (fun r w2 => w2 = (SH, dt) ∧ ((∃ v : Int, r = some (.inl v) ∧ (0 ≤ v ∧ v ≤ 65535) ∧ (v = (am_Sby.getD 19 []).getD p2.toNat 0)))) := by
  refine go_toq PM256 (k := 3) (pc' := 3) (L' := [some (.inr (.inr (some 2019))), some (.inl p2)]) (st' := [.inl 5, .inl p2]) (w' := (SH, dt)) rfl ?_
  refine go_callq PM256 PM255 (Q' := _) rfl rfl rfl rfl (sp_J0_checkIndex_df160 L xs sio (d + 0) dt hI  p2 (by first | exact h_p2 | exact bnd h_p2 (by decide) (by decide) | exact ⟨by fail, by fail⟩) 5 ⟨by decide, by decide⟩ (by first | exact True.intro | with_reducible assumption | rfl | omega | trivial)) ?_
  rintro _ _ ⟨rfl, h1⟩
  refine ⟨rfl, ?_⟩
  rcases h1 with ⟨rfl, h1⟩
  refine go_toq PM256 (k := 2) (pc' := 8) (L' := [some (.inr (.inr (some 2019))), some (.inl p2)]) (st' := [.inl p2, .inr (.inr (some 2019))]) (w' := (SH, dt)) rfl ?_
  have r2 := sby_R 19 (p2).toNat
  refine go_smpq PM256 (L' := [some (.inr (.inr (some 2019))), some (.inl p2)]) (st' := [.inl ((am_Sby.getD 19 []).getD (p2).toNat 0)]) (w' := (SH, dt)) rfl rfl (s_bald (n := 5) (f := fun q => (am_Sby.getD 19 []).getD q 0) rfl (by first | exact bndx h_p2 (by decide) (by decide) | exact ⟨by fail, by fail⟩)) ?_
  have r3 : 0 ≤ am_and ((am_Sby.getD 19 []).getD (p2).toNat 0) 255 ∧ am_and ((am_Sby.getD 19 []).getD (p2).toNat 0) 255 ≤ 255 := and_R255
  have r4 := i2c_R (am_and ((am_Sby.getD 19 []).getD (p2).toNat 0) 255)
  refine go_toq PM256 (k := 3) (pc' := 14) (L' := [some (.inr (.inr (some 2019))), some (.inl p2)]) (st' := [.inl (am_i2c (am_and ((am_Sby.getD 19 []).getD (p2).toNat 0) 255))]) (w' := (SH, dt)) rfl ?_
  refine go_retvq PM256 (v := am_i2c (am_and ((am_Sby.getD 19 []).getD (p2).toNat 0) 255)) rfl (decide_eq_true (show 0 ≤ am_i2c (am_and ((am_Sby.getD 19 []).getD (p2).toNat 0) 255) ∧ am_i2c (am_and ((am_Sby.getD 19 []).getD (p2).toNat 0) 255) < 65536 by omega)) ?_
  exact ⟨rfl, ⟨_, rfl, ⟨by omega, by omega⟩, by exact ic_id ⟨by omega, by omega⟩⟩⟩
theorem sp_J0_charAt_5068e_19f (L : Nat) (xs : Nat → Int32) (sio : Option Nat) (d : Nat) (dt : Nat → Nat → Int) (hI : InvC dt)  (p1 : Int) (h_p1 : 0 ≤ p1 ∧ p1 ≤ 4)  : GO (am_XX L xs sio) (d + 3) 250 0 [some (.inr (.inr (some 1019))), some (.inl p1)] [] (SH, dt) (fun r w2 => w2 = (SH, dt) ∧ ((∃ v : Int, r = some (.inl v) ∧ (0 ≤ v ∧ v ≤ 65535) ∧ (v = (am_Sby.getD 19 []).getD p1.toNat 0)))) := by
  refine go_toq PM250 (k := 1) (pc' := 1) (L' := [some (.inr (.inr (some 1019))), some (.inl p1)]) (st' := [.inr (.inr (some 1019))]) (w' := (SH, dt)) rfl ?_
  refine go_callq PM250 PM254 (Q' := _) rfl rfl rfl rfl (sp_J0_isLatin1_aae02_1019 L xs sio (d + 2) dt hI   ) ?_
  rintro _ _ ⟨rfl, h1⟩
  refine ⟨rfl, ?_⟩
  rcases h1 with ⟨rfl, h1⟩
  refine go_toq PM250 (k := 4) (pc' := 12) (L' := [some (.inr (.inr (some 1019))), some (.inl p1)]) (st' := [.inl p1, .inr (.inr (some 2019))]) (w' := (SH, dt)) rfl ?_
  refine go_callq PM250 PM256 (Q' := _) rfl rfl rfl rfl (sp_J1_charAt_3b067_19f L xs sio (d + 0) dt hI  p1 (by first | exact h_p1 | exact bnd h_p1 (by decide) (by decide) | exact ⟨by fail, by fail⟩) ) ?_
  rintro _ _ ⟨rfl, h2⟩
  refine ⟨rfl, ?_⟩
  rcases h2 with ⟨v_h2, rfl, h2r, h2⟩
  refine go_retvq PM250 (v := v_h2) rfl (decide_eq_true (show 0 ≤ v_h2 ∧ v_h2 < 65536 by omega)) ?_
  exact ⟨rfl, ⟨_, rfl, ⟨by omega, by omega⟩, by first | exact True.intro | with_reducible assumption | rfl | fail | trivial⟩⟩
set_option maxRecDepth 20000 in
theorem sp_X6_is_19f (L : Nat) (xs : Nat → Int32) (sio : Option Nat) (d : Nat) (dt : Nat → Nat → Int) (hI : InvC dt)   (h_p0 : dt 79 13 ≤ 500) (h_p1 : dt 79 15 ≤ dt 79 13) (h_p2 : dt 79 13 ≤ dt 79 12) : GO (am_XX L xs sio) (d + 4) 156 0 [some (.inr (.inr (some 79))), some (.inr (.inr (some 1019))), none, none] [] (SH, dt) (fun r w2 => w2 = (SH, dt) ∧ ((∃ v : Int, r = some (.inl v) ∧ (0 ≤ v ∧ v ≤ 1) ∧ (v = wm (am_Sby.getD 19 []) (mB (dt 85) (dt 79 12)) (dt 79 15).toNat (dt 79 13).toNat)))) := by
  have r1 : 0 ≤ dt 79 13 ∧ dt 79 13 ≤ 501 := InvC_get hI 79 13 rfl rfl
  have r2 : 0 ≤ dt 79 15 ∧ dt 79 15 ≤ 500 := InvC_get hI 79 15 rfl rfl
  have r3 : 0 ≤ dt 79 12 ∧ dt 79 12 ≤ 500 := InvC_get hI 79 12 rfl rfl
  have hlen : (((am_Sby.getD 19 []).length : Nat) : Int) = 5 := rfl
  refine go_toq PM156 (k := 6) (pc' := 10) (L' := [some (.inr (.inr (some 79))), some (.inr (.inr (some 1019))), none, none]) (st' := [.inr (.inr (some 1019)), .inl ((dt 79 13) - (dt 79 15))]) (w' := (SH, dt)) rfl ?_
  refine go_callq PM156 PM249 (Q' := _) rfl rfl rfl rfl (sp_J0_length_8abf5_1019 L xs sio (d + 2) dt hI   ) ?_
  rintro _ _ ⟨rfl, h4⟩
  refine ⟨rfl, ?_⟩
  rcases h4 with ⟨rfl, h4⟩
  refine go_ifq PM156 (k := 0) (p1 := 20) (p2 := 16) (L' := [some (.inr (.inr (some 79))), some (.inr (.inr (some 1019))), none, none]) (st' := []) (w' := (SH, dt)) rfl (c_ne (a := (dt 79 13) - (dt 79 15)) (b := 5) ⟨by omega, by omega⟩ ⟨by decide, by decide⟩) (fun c5 => ?_) (fun c5 => ?_)
  · skip
    replace c5 := hid c5
    refine go_toq PM156 (k := 4) (pc' := 24) (L' := [some (.inr (.inr (some 79))), some (.inr (.inr (some 1019))), some (.inl 0), some (.inl 0)]) (st' := []) (w' := (SH, dt)) rfl ?_
    have loop18 : ∀ (k_ : Nat) (l24_2 : Int) (l24_3 : Int) (i13 : 0 ≤ l24_2 ∧ l24_2 ≤ 1) (i14 : 0 ≤ l24_3 ∧ l24_3 ≤ 5) (i15 : l24_2 = 1 → WQ (am_Sby.getD 19 []) (dt 79 13 - dt 79 15) (mB (dt 85) (dt 79 12)) (dt 79 15) l24_3) (i16 : l24_2 = 0 → wm (am_Sby.getD 19 []) (mB (dt 85) (dt 79 12)) (dt 79 15).toNat (dt 79 13).toNat = 0) (i17 : l24_2 = 0 ∨ dt 79 13 - dt 79 15 = 5), (6 - l24_3).toNat < k_ → GO (am_XX L xs sio) (d + 4) 156 24 [some (.inr (.inr (some 79))), some (.inr (.inr (some 1019))), some (.inl l24_2), some (.inl l24_3)] [] (SH, dt) (fun r w2 => w2 = (SH, dt) ∧ ((∃ v : Int, r = some (.inl v) ∧ (0 ≤ v ∧ v ≤ 1) ∧ (v = wm (am_Sby.getD 19 []) (mB (dt 85) (dt 79 12)) (dt 79 15).toNat (dt 79 13).toNat)))) := by
      intro k_
      induction k_ with
      | zero => intro l24_2 l24_3 i13 i14 i15 i16 i17 hm; exact absurd hm (Nat.not_lt_zero _)
      | succ k_ ih_loop18 =>
        intro l24_2 l24_3 i13 i14 i15 i16 i17 hm
        replace i15 := hid i15
        replace i16 := hid i16
        replace i17 := hid i17
        have q1 := i15
        have q2 := i16
        refine go_toq PM156 (k := 2) (pc' := 26) (L' := [some (.inr (.inr (some 79))), some (.inr (.inr (some 1019))), some (.inl l24_2), some (.inl l24_3)]) (st' := [.inr (.inr (some 1019)), .inl l24_3]) (w' := (SH, dt)) rfl ?_
        refine go_callq PM156 PM249 (Q' := _) rfl rfl rfl rfl (sp_J0_length_8abf5_1019 L xs sio (d + 2) dt hI   ) ?_
        rintro _ _ ⟨rfl, h19⟩
        refine ⟨rfl, ?_⟩
        rcases h19 with ⟨rfl, h19⟩
        refine go_ifq PM156 (k := 0) (p1 := 67) (p2 := 32) (L' := [some (.inr (.inr (some 79))), some (.inr (.inr (some 1019))), some (.inl l24_2), some (.inl l24_3)]) (st' := []) (w' := (SH, dt)) rfl (c_ge (a := l24_3) (b := 5) (by first | exact bnd i14 (by decide) (by decide) | exact ⟨by fail, by fail⟩) ⟨by decide, by decide⟩) (fun c20 => ?_) (fun c20 => ?_)
        · skip
          refine go_toq PM156 (k := 1) (pc' := 68) (L' := [some (.inr (.inr (some 79))), some (.inr (.inr (some 1019))), some (.inl l24_2), some (.inl l24_3)]) (st' := [.inl l24_2]) (w' := (SH, dt)) rfl ?_
          refine go_retvq PM156 (v := l24_2) rfl (decide_eq_true (show l24_2 = 0 ∨ l24_2 = 1 by omega)) ?_
          exact ⟨rfl, ⟨_, rfl, ⟨by omega, by omega⟩, by rcases (show l24_2 = 0 ∨ l24_2 = 1 by omega) with z | z <;> first | (rw [q2 z]; exact z) | (rw [WM_1 (q1 z) ⟨by omega, by omega⟩ (by omega)]; exact z)⟩⟩
        · skip
          refine go_ifq PM156 (k := 1) (p1 := 67) (p2 := 36) (L' := [some (.inr (.inr (some 79))), some (.inr (.inr (some 1019))), some (.inl l24_2), some (.inl l24_3)]) (st' := []) (w' := (SH, dt)) rfl (z_eq (a := l24_2) (by first | exact bnd i13 (by decide) (by decide) | exact ⟨by fail, by fail⟩)) (fun c21 => ?_) (fun c21 => ?_)
          · skip
            refine go_toq PM156 (k := 1) (pc' := 68) (L' := [some (.inr (.inr (some 79))), some (.inr (.inr (some 1019))), some (.inl l24_2), some (.inl l24_3)]) (st' := [.inl l24_2]) (w' := (SH, dt)) rfl ?_
            refine go_retvq PM156 (v := l24_2) rfl (decide_eq_true (show l24_2 = 0 ∨ l24_2 = 1 by omega)) ?_
            exact ⟨rfl, ⟨_, rfl, ⟨by omega, by omega⟩, by rcases (show l24_2 = 0 ∨ l24_2 = 1 by omega) with z | z <;> first | (rw [q2 z]; exact z) | (rw [WM_1 (q1 z) ⟨by omega, by omega⟩ (by omega)]; exact z)⟩⟩
          · skip
            replace c21 := hid c21
            refine go_toq PM156 (k := 6) (pc' := 46) (L' := [some (.inr (.inr (some 79))), some (.inr (.inr (some 1019))), some (.inl l24_2), some (.inl l24_3)]) (st' := [.inl ((dt 79 15) + l24_3), .inr (.inr (some 85))]) (w' := (SH, dt)) rfl ?_
            have r22 : 0 ≤ dt 85 (((dt 79 15) + l24_3).toNat) ∧ dt 85 (((dt 79 15) + l24_3).toNat) ≤ 255 := InvC_get hI 85 (((dt 79 15) + l24_3).toNat) rfl rfl
            have u49_ := hid (And.intro (unhid c5) (And.intro (unhid i16) (And.intro (unhid i17) (unhid c21))))
            refine go_smpq PM156 (L' := [some (.inr (.inr (some 79))), some (.inr (.inr (some 1019))), some (.inl l24_2), some (.inl l24_3)]) (st' := [.inl (dt 85 (((dt 79 15) + l24_3).toNat))]) (w' := (SH, dt)) rfl rfl (s_iald (n := 500) (f := dt 85) rfl ⟨by omega, by (have z_ := unhid u49_; omega)⟩) ?_
            refine go_toq PM156 (k := 2) (pc' := 49) (L' := [some (.inr (.inr (some 79))), some (.inr (.inr (some 1019))), some (.inl l24_2), some (.inl l24_3)]) (st' := [.inl l24_3, .inr (.inr (some 1019)), .inl (dt 85 (((dt 79 15) + l24_3).toNat))]) (w' := (SH, dt)) rfl ?_
            refine go_callq PM156 PM250 (Q' := _) rfl rfl rfl rfl (sp_J0_charAt_5068e_19f L xs sio (d + 0) dt hI  l24_3 (by first | exact bnd i14 (by decide) (by decide) | exact bndd i14 c20 (by decide) (by decide) | exact ⟨by fail, by fail⟩) ) ?_
            rintro _ _ ⟨rfl, h23⟩
            refine ⟨rfl, ?_⟩
            rcases h23 with ⟨v_h23, rfl, h23r, h23⟩
            refine go_ifq PM156 (k := 0) (p1 := 59) (p2 := 55) (L' := [some (.inr (.inr (some 79))), some (.inr (.inr (some 1019))), some (.inl l24_2), some (.inl l24_3)]) (st' := []) (w' := (SH, dt)) rfl (c_ne (a := dt 85 (((dt 79 15) + l24_3).toNat)) (b := v_h23) (by first | exact bnd r22 (by decide) (by decide) | exact ⟨by fail, by fail⟩) (by first | exact bnd h23r (by decide) (by decide) | exact ⟨by fail, by fail⟩)) (fun c24 => ?_) (fun c24 => ?_)
            · skip
              replace c24 := hid c24
              refine go_toq PM156 (k := 4) (pc' := 24) (L' := [some (.inr (.inr (some 79))), some (.inr (.inr (some 1019))), some (.inl 0), some (.inl (l24_3 + 1))]) (st' := []) (w' := (SH, dt)) rfl ?_
              have u50_ := hid (And.intro (unhid c5) (And.intro (unhid i16) (And.intro (unhid i17) (And.intro (unhid c21) (unhid c24)))))
              exact GO.le (ih_loop18 0 (l24_3 + 1) (by first | omega | (intro z; first | fail | exact WQ_0 (by fail) (by fail) | exact WM_a ⟨by fail, by fail⟩ (by fail) | exact WQ_s (q1 (by fail)) ⟨by fail, by fail⟩ (mB_in (by fail) (by fail)).symm h23 (by fail) | exact WM_b ⟨by fail, by fail⟩ (by fail) (mB_in (by fail) (by fail)).symm h23 (by fail))) (by first | omega | (intro z; first | fail | exact WQ_0 (by fail) (by fail) | exact WM_a ⟨by fail, by fail⟩ (by fail) | exact WQ_s (q1 (by fail)) ⟨by fail, by fail⟩ (mB_in (by fail) (by fail)).symm h23 (by fail) | exact WM_b ⟨by fail, by fail⟩ (by fail) (mB_in (by fail) (by fail)).symm h23 (by fail))) (by first | omega | (intro z; first | fail | exact WQ_0 (by fail) (by fail) | exact WM_a ⟨by fail, by fail⟩ (by fail) | exact WQ_s (q1 (by fail)) ⟨by fail, by fail⟩ (mB_in (by fail) (by fail)).symm h23 (by fail) | exact WM_b ⟨by fail, by fail⟩ (by fail) (mB_in (by fail) (by fail)).symm h23 (by fail))) (by first | (have z_ := unhid u50_; omega) | (intro z; first | fail | exact WQ_0 (by fail) (by fail) | exact WM_a ⟨by fail, by fail⟩ (by fail) | exact WQ_s (q1 (by fail)) ⟨by fail, by fail⟩ (mB_in (by fail) (by fail)).symm h23 (by fail) | exact WM_b ⟨by fail, by fail⟩ (by fail) (mB_in (by fail) (by fail)).symm h23 (by fail))) (by first | omega | (intro z; first | fail | exact WQ_0 (by fail) (by fail) | exact WM_a ⟨by fail, by fail⟩ (by fail) | exact WQ_s (q1 (by fail)) ⟨by fail, by fail⟩ (mB_in (by fail) (by fail)).symm h23 (by fail) | exact WM_b ⟨by fail, by fail⟩ (by fail) (mB_in (by fail) (by fail)).symm h23 (by fail))) (by omega)) ⟨.inl rfl, .inl rfl, .inl rfl, .inl rfl, trivial⟩
            · skip
              refine go_toq PM156 (k := 5) (pc' := 24) (L' := [some (.inr (.inr (some 79))), some (.inr (.inr (some 1019))), some (.inl 1), some (.inl (l24_3 + 1))]) (st' := []) (w' := (SH, dt)) rfl ?_
              exact GO.le (ih_loop18 1 (l24_3 + 1) (by first | omega | (intro z; first | fail | exact WQ_0 (by fail) (by fail) | exact WM_a ⟨by fail, by fail⟩ (by fail) | exact WQ_s (q1 (by fail)) ⟨by fail, by fail⟩ (mB_in (by fail) (by fail)).symm h23 (by fail) | exact WM_b ⟨by fail, by fail⟩ (by fail) (mB_in (by fail) (by fail)).symm h23 (by fail))) (by first | omega | (intro z; first | fail | exact WQ_0 (by fail) (by fail) | exact WM_a ⟨by fail, by fail⟩ (by fail) | exact WQ_s (q1 (by fail)) ⟨by fail, by fail⟩ (mB_in (by fail) (by fail)).symm h23 (by fail) | exact WM_b ⟨by fail, by fail⟩ (by fail) (mB_in (by fail) (by fail)).symm h23 (by fail))) (by first | (have z_ := unhid u49_; omega) | (intro z; first | fail | exact WQ_0 (by fail) (by fail) | exact WM_a ⟨by fail, by fail⟩ (by fail) | exact WQ_s (q1 (by fail)) ⟨by fail, by fail⟩ (mB_in (by fail) (by fail)).symm h23 (by fail) | exact WM_b ⟨by fail, by fail⟩ (by fail) (mB_in (by fail) (by fail)).symm h23 (by fail))) (by first | omega | (intro z; first | fail | exact WQ_0 (by fail) (by fail) | exact WM_a ⟨by fail, by fail⟩ (by fail) | exact WQ_s (q1 (by fail)) ⟨by fail, by fail⟩ (mB_in (by fail) (by fail)).symm h23 (by fail) | exact WM_b ⟨by fail, by fail⟩ (by fail) (mB_in (by fail) (by fail)).symm h23 (by fail))) (by first | (have z_ := unhid u49_; omega) | (intro z; first | fail | exact WQ_0 (by fail) (by fail) | exact WM_a ⟨by fail, by fail⟩ (by fail) | exact WQ_s (q1 (by fail)) ⟨by fail, by fail⟩ (mB_in (by fail) (by fail)).symm h23 (by fail) | exact WM_b ⟨by fail, by fail⟩ (by fail) (mB_in (by fail) (by fail)).symm h23 (by fail))) (by omega)) ⟨.inl rfl, .inl rfl, .inl rfl, .inl rfl, trivial⟩
    exact GO.le (loop18 _ 0 0 (by first | omega | (intro z; first | fail | exact WQ_0 (by fail) (by fail) | exact WM_a ⟨by fail, by fail⟩ (by fail) | exact WQ_s (q1 (by fail)) ⟨by fail, by fail⟩ (mB_in (by fail) (by fail)).symm hI (by fail) | exact WM_b ⟨by fail, by fail⟩ (by fail) (mB_in (by fail) (by fail)).symm hI (by fail))) (by first | omega | (intro z; first | fail | exact WQ_0 (by fail) (by fail) | exact WM_a ⟨by fail, by fail⟩ (by fail) | exact WQ_s (q1 (by fail)) ⟨by fail, by fail⟩ (mB_in (by fail) (by fail)).symm hI (by fail) | exact WM_b ⟨by fail, by fail⟩ (by fail) (mB_in (by fail) (by fail)).symm hI (by fail))) (by first | omega | (intro z; first | fail | exact WQ_0 (by fail) (by fail) | exact WM_a ⟨by fail, by fail⟩ (by fail) | exact WQ_s (q1 (by fail)) ⟨by fail, by fail⟩ (mB_in (by fail) (by fail)).symm hI (by fail) | exact WM_b ⟨by fail, by fail⟩ (by fail) (mB_in (by fail) (by fail)).symm hI (by fail))) (by first | fail | (intro z; first | fail | exact WQ_0 (by fail) (by fail) | exact WM_a ⟨by omega, by omega⟩ (by (have z0_ := unhid c5; omega)) | exact WQ_s (q1 (by fail)) ⟨by fail, by fail⟩ (mB_in (by fail) (by fail)).symm hI (by fail) | exact WM_b ⟨by fail, by fail⟩ (by fail) (mB_in (by fail) (by fail)).symm hI (by fail))) (by first | omega | (intro z; first | fail | exact WQ_0 (by fail) (by fail) | exact WM_a ⟨by fail, by fail⟩ (by fail) | exact WQ_s (q1 (by fail)) ⟨by fail, by fail⟩ (mB_in (by fail) (by fail)).symm hI (by fail) | exact WM_b ⟨by fail, by fail⟩ (by fail) (mB_in (by fail) (by fail)).symm hI (by fail))) (Nat.lt_succ_self _)) ⟨.inl rfl, .inl rfl, .inl rfl, .inl rfl, trivial⟩
  · skip
    refine go_toq PM156 (k := 5) (pc' := 24) (L' := [some (.inr (.inr (some 79))), some (.inr (.inr (some 1019))), some (.inl 1), some (.inl 0)]) (st' := []) (w' := (SH, dt)) rfl ?_
    have loop37 : ∀ (k_ : Nat) (l24_2 : Int) (l24_3 : Int) (i32 : 0 ≤ l24_2 ∧ l24_2 ≤ 1) (i33 : 0 ≤ l24_3 ∧ l24_3 ≤ 5) (i34 : l24_2 = 1 → WQ (am_Sby.getD 19 []) (dt 79 13 - dt 79 15) (mB (dt 85) (dt 79 12)) (dt 79 15) l24_3) (i35 : l24_2 = 0 → wm (am_Sby.getD 19 []) (mB (dt 85) (dt 79 12)) (dt 79 15).toNat (dt 79 13).toNat = 0) (i36 : l24_2 = 0 ∨ dt 79 13 - dt 79 15 = 5), (6 - l24_3).toNat < k_ → GO (am_XX L xs sio) (d + 4) 156 24 [some (.inr (.inr (some 79))), some (.inr (.inr (some 1019))), some (.inl l24_2), some (.inl l24_3)] [] (SH, dt) (fun r w2 => w2 = (SH, dt) ∧ ((∃ v : Int, r = some (.inl v) ∧ (0 ≤ v ∧ v ≤ 1) ∧ (v = wm (am_Sby.getD 19 []) (mB (dt 85) (dt 79 12)) (dt 79 15).toNat (dt 79 13).toNat)))) := by
      intro k_
      induction k_ with
      | zero => intro l24_2 l24_3 i32 i33 i34 i35 i36 hm; exact absurd hm (Nat.not_lt_zero _)
      | succ k_ ih_loop37 =>
        intro l24_2 l24_3 i32 i33 i34 i35 i36 hm
        replace i34 := hid i34
        replace i35 := hid i35
        replace i36 := hid i36
        have q1 := i34
        have q2 := i35
        refine go_toq PM156 (k := 2) (pc' := 26) (L' := [some (.inr (.inr (some 79))), some (.inr (.inr (some 1019))), some (.inl l24_2), some (.inl l24_3)]) (st' := [.inr (.inr (some 1019)), .inl l24_3]) (w' := (SH, dt)) rfl ?_
        refine go_callq PM156 PM249 (Q' := _) rfl rfl rfl rfl (sp_J0_length_8abf5_1019 L xs sio (d + 2) dt hI   ) ?_
        rintro _ _ ⟨rfl, h38⟩
        refine ⟨rfl, ?_⟩
        rcases h38 with ⟨rfl, h38⟩
        refine go_ifq PM156 (k := 0) (p1 := 67) (p2 := 32) (L' := [some (.inr (.inr (some 79))), some (.inr (.inr (some 1019))), some (.inl l24_2), some (.inl l24_3)]) (st' := []) (w' := (SH, dt)) rfl (c_ge (a := l24_3) (b := 5) (by first | exact bnd i33 (by decide) (by decide) | exact ⟨by fail, by fail⟩) ⟨by decide, by decide⟩) (fun c39 => ?_) (fun c39 => ?_)
        · skip
          refine go_toq PM156 (k := 1) (pc' := 68) (L' := [some (.inr (.inr (some 79))), some (.inr (.inr (some 1019))), some (.inl l24_2), some (.inl l24_3)]) (st' := [.inl l24_2]) (w' := (SH, dt)) rfl ?_
          refine go_retvq PM156 (v := l24_2) rfl (decide_eq_true (show l24_2 = 0 ∨ l24_2 = 1 by omega)) ?_
          exact ⟨rfl, ⟨_, rfl, ⟨by omega, by omega⟩, by rcases (show l24_2 = 0 ∨ l24_2 = 1 by omega) with z | z <;> first | (rw [q2 z]; exact z) | (rw [WM_1 (q1 z) ⟨by omega, by omega⟩ (by omega)]; exact z)⟩⟩
        · skip
          refine go_ifq PM156 (k := 1) (p1 := 67) (p2 := 36) (L' := [some (.inr (.inr (some 79))), some (.inr (.inr (some 1019))), some (.inl l24_2), some (.inl l24_3)]) (st' := []) (w' := (SH, dt)) rfl (z_eq (a := l24_2) (by first | exact bnd i32 (by decide) (by decide) | exact ⟨by fail, by fail⟩)) (fun c40 => ?_) (fun c40 => ?_)
          · skip
            refine go_toq PM156 (k := 1) (pc' := 68) (L' := [some (.inr (.inr (some 79))), some (.inr (.inr (some 1019))), some (.inl l24_2), some (.inl l24_3)]) (st' := [.inl l24_2]) (w' := (SH, dt)) rfl ?_
            refine go_retvq PM156 (v := l24_2) rfl (decide_eq_true (show l24_2 = 0 ∨ l24_2 = 1 by omega)) ?_
            exact ⟨rfl, ⟨_, rfl, ⟨by omega, by omega⟩, by rcases (show l24_2 = 0 ∨ l24_2 = 1 by omega) with z | z <;> first | (rw [q2 z]; exact z) | (rw [WM_1 (q1 z) ⟨by omega, by omega⟩ (by omega)]; exact z)⟩⟩
          · skip
            replace c40 := hid c40
            refine go_toq PM156 (k := 6) (pc' := 46) (L' := [some (.inr (.inr (some 79))), some (.inr (.inr (some 1019))), some (.inl l24_2), some (.inl l24_3)]) (st' := [.inl ((dt 79 15) + l24_3), .inr (.inr (some 85))]) (w' := (SH, dt)) rfl ?_
            have r41 : 0 ≤ dt 85 (((dt 79 15) + l24_3).toNat) ∧ dt 85 (((dt 79 15) + l24_3).toNat) ≤ 255 := InvC_get hI 85 (((dt 79 15) + l24_3).toNat) rfl rfl
            refine go_smpq PM156 (L' := [some (.inr (.inr (some 79))), some (.inr (.inr (some 1019))), some (.inl l24_2), some (.inl l24_3)]) (st' := [.inl (dt 85 (((dt 79 15) + l24_3).toNat))]) (w' := (SH, dt)) rfl rfl (s_iald (n := 500) (f := dt 85) rfl ⟨by omega, by omega⟩) ?_
            refine go_toq PM156 (k := 2) (pc' := 49) (L' := [some (.inr (.inr (some 79))), some (.inr (.inr (some 1019))), some (.inl l24_2), some (.inl l24_3)]) (st' := [.inl l24_3, .inr (.inr (some 1019)), .inl (dt 85 (((dt 79 15) + l24_3).toNat))]) (w' := (SH, dt)) rfl ?_
            refine go_callq PM156 PM250 (Q' := _) rfl rfl rfl rfl (sp_J0_charAt_5068e_19f L xs sio (d + 0) dt hI  l24_3 (by first | exact bnd i33 (by decide) (by decide) | exact bndd i33 c39 (by decide) (by decide) | exact ⟨by fail, by fail⟩) ) ?_
            rintro _ _ ⟨rfl, h42⟩
            refine ⟨rfl, ?_⟩
            rcases h42 with ⟨v_h42, rfl, h42r, h42⟩
            refine go_ifq PM156 (k := 0) (p1 := 59) (p2 := 55) (L' := [some (.inr (.inr (some 79))), some (.inr (.inr (some 1019))), some (.inl l24_2), some (.inl l24_3)]) (st' := []) (w' := (SH, dt)) rfl (c_ne (a := dt 85 (((dt 79 15) + l24_3).toNat)) (b := v_h42) (by first | exact bnd r41 (by decide) (by decide) | exact ⟨by fail, by fail⟩) (by first | exact bnd h42r (by decide) (by decide) | exact ⟨by fail, by fail⟩)) (fun c43 => ?_) (fun c43 => ?_)
            · skip
              replace c43 := hid c43
              refine go_toq PM156 (k := 4) (pc' := 24) (L' := [some (.inr (.inr (some 79))), some (.inr (.inr (some 1019))), some (.inl 0), some (.inl (l24_3 + 1))]) (st' := []) (w' := (SH, dt)) rfl ?_
              have u51_ := hid (And.intro (unhid i35) (And.intro (unhid i36) (And.intro (unhid c40) (unhid c43))))
              exact GO.le (ih_loop37 0 (l24_3 + 1) (by first | omega | (intro z; first | fail | exact WQ_0 (by fail) (by fail) | exact WM_a ⟨by fail, by fail⟩ (by fail) | exact WQ_s (q1 (by fail)) ⟨by fail, by fail⟩ (mB_in (by fail) (by fail)).symm h42 (by fail) | exact WM_b ⟨by fail, by fail⟩ (by fail) (mB_in (by fail) (by fail)).symm h42 (by fail))) (by first | omega | (intro z; first | fail | exact WQ_0 (by fail) (by fail) | exact WM_a ⟨by fail, by fail⟩ (by fail) | exact WQ_s (q1 (by fail)) ⟨by fail, by fail⟩ (mB_in (by fail) (by fail)).symm h42 (by fail) | exact WM_b ⟨by fail, by fail⟩ (by fail) (mB_in (by fail) (by fail)).symm h42 (by fail))) (by first | omega | (intro z; first | fail | exact WQ_0 (by fail) (by fail) | exact WM_a ⟨by fail, by fail⟩ (by fail) | exact WQ_s (q1 (by fail)) ⟨by fail, by fail⟩ (mB_in (by fail) (by fail)).symm h42 (by fail) | exact WM_b ⟨by fail, by fail⟩ (by fail) (mB_in (by fail) (by fail)).symm h42 (by fail))) (by first | fail | (intro z; first | fail | exact WQ_0 (by fail) (by fail) | exact WM_a ⟨by omega, by omega⟩ (by fail) | exact WQ_s (q1 (by (have z_ := unhid u51_; omega))) ⟨by omega, by omega⟩ (mB_in (by omega) (by omega)).symm h42 (by fail) | exact WM_b ⟨by omega, by omega⟩ (by omega) (mB_in (by omega) (by omega)).symm h42 (by (have z_ := unhid u51_; omega)))) (by first | omega | (intro z; first | fail | exact WQ_0 (by fail) (by fail) | exact WM_a ⟨by fail, by fail⟩ (by fail) | exact WQ_s (q1 (by fail)) ⟨by fail, by fail⟩ (mB_in (by fail) (by fail)).symm h42 (by fail) | exact WM_b ⟨by fail, by fail⟩ (by fail) (mB_in (by fail) (by fail)).symm h42 (by fail))) (by omega)) ⟨.inl rfl, .inl rfl, .inl rfl, .inl rfl, trivial⟩
            · skip
              refine go_toq PM156 (k := 5) (pc' := 24) (L' := [some (.inr (.inr (some 79))), some (.inr (.inr (some 1019))), some (.inl 1), some (.inl (l24_3 + 1))]) (st' := []) (w' := (SH, dt)) rfl ?_
              exact GO.le (ih_loop37 1 (l24_3 + 1) (by first | omega | (intro z; first | fail | exact WQ_0 (by fail) (by fail) | exact WM_a ⟨by fail, by fail⟩ (by fail) | exact WQ_s (q1 (by fail)) ⟨by fail, by fail⟩ (mB_in (by fail) (by fail)).symm h42 (by fail) | exact WM_b ⟨by fail, by fail⟩ (by fail) (mB_in (by fail) (by fail)).symm h42 (by fail))) (by first | omega | (intro z; first | fail | exact WQ_0 (by fail) (by fail) | exact WM_a ⟨by fail, by fail⟩ (by fail) | exact WQ_s (q1 (by fail)) ⟨by fail, by fail⟩ (mB_in (by fail) (by fail)).symm h42 (by fail) | exact WM_b ⟨by fail, by fail⟩ (by fail) (mB_in (by fail) (by fail)).symm h42 (by fail))) (by first | fail | (intro z; first | fail | exact WQ_0 (by omega) (by fail) | exact WM_a ⟨by fail, by fail⟩ (by fail) | exact WQ_s (q1 (by (have z0_ := unhid i35; have z1_ := unhid i36; have z2_ := unhid c40; omega))) ⟨by omega, by omega⟩ (mB_in (by omega) (by omega)).symm h42 (by omega) | exact WM_b ⟨by fail, by fail⟩ (by fail) (mB_in (by fail) (by fail)).symm h42 (by fail))) (by first | omega | (intro z; first | fail | exact WQ_0 (by fail) (by fail) | exact WM_a ⟨by fail, by fail⟩ (by fail) | exact WQ_s (q1 (by fail)) ⟨by fail, by fail⟩ (mB_in (by fail) (by fail)).symm h42 (by fail) | exact WM_b ⟨by fail, by fail⟩ (by fail) (mB_in (by fail) (by fail)).symm h42 (by fail))) (by first | omega | (intro z; first | fail | exact WQ_0 (by fail) (by fail) | exact WM_a ⟨by fail, by fail⟩ (by fail) | exact WQ_s (q1 (by fail)) ⟨by fail, by fail⟩ (mB_in (by fail) (by fail)).symm h42 (by fail) | exact WM_b ⟨by fail, by fail⟩ (by fail) (mB_in (by fail) (by fail)).symm h42 (by fail))) (by omega)) ⟨.inl rfl, .inl rfl, .inl rfl, .inl rfl, trivial⟩
    exact GO.le (loop37 _ 1 0 (by first | omega | (intro z; first | fail | exact WQ_0 (by fail) (by fail) | exact WM_a ⟨by fail, by fail⟩ (by fail) | exact WQ_s (q1 (by fail)) ⟨by fail, by fail⟩ (mB_in (by fail) (by fail)).symm hI (by fail) | exact WM_b ⟨by fail, by fail⟩ (by fail) (mB_in (by fail) (by fail)).symm hI (by fail))) (by first | omega | (intro z; first | fail | exact WQ_0 (by fail) (by fail) | exact WM_a ⟨by fail, by fail⟩ (by fail) | exact WQ_s (q1 (by fail)) ⟨by fail, by fail⟩ (mB_in (by fail) (by fail)).symm hI (by fail) | exact WM_b ⟨by fail, by fail⟩ (by fail) (mB_in (by fail) (by fail)).symm hI (by fail))) (by first | fail | (intro z; first | fail | exact WQ_0 (by omega) (by omega) | exact WM_a ⟨by fail, by fail⟩ (by fail) | exact WQ_s (q1 (by fail)) ⟨by fail, by fail⟩ (mB_in (by fail) (by fail)).symm hI (by fail) | exact WM_b ⟨by fail, by fail⟩ (by fail) (mB_in (by fail) (by fail)).symm hI (by fail))) (by first | omega | (intro z; first | fail | exact WQ_0 (by fail) (by fail) | exact WM_a ⟨by fail, by fail⟩ (by fail) | exact WQ_s (q1 (by fail)) ⟨by fail, by fail⟩ (mB_in (by fail) (by fail)).symm hI (by fail) | exact WM_b ⟨by fail, by fail⟩ (by fail) (mB_in (by fail) (by fail)).symm hI (by fail))) (by first | omega | (intro z; first | fail | exact WQ_0 (by fail) (by fail) | exact WM_a ⟨by fail, by fail⟩ (by fail) | exact WQ_s (q1 (by fail)) ⟨by fail, by fail⟩ (mB_in (by fail) (by fail)).symm hI (by fail) | exact WM_b ⟨by fail, by fail⟩ (by fail) (mB_in (by fail) (by fail)).symm hI (by fail))) (Nat.lt_succ_self _)) ⟨.inl rfl, .inl rfl, .inl rfl, .inl rfl, trivial⟩
theorem sp_J1_charAt_3b067_20f (L : Nat) (xs : Nat → Int32) (sio : Option Nat) (d : Nat) (dt : Nat → Nat → Int) (hI : InvC dt)  (p2 : Int) (h_p2 : 0 ≤ p2 ∧ p2 ≤ 2)  : GO (am_XX L xs sio) (d + 2) 256 0 [some (.inr (.inr (some 2020))), some (.inl p2)] [] (SH, dt) (fun r w2 => w2 = (SH, dt) ∧ ((∃ v : Int, r = some (.inl v) ∧ (0 ≤ v ∧ v ≤ 65535) ∧ (v = (am_Sby.getD 20 []).getD p2.toNat 0)))) := by
  refine go_toq PM256 (k := 3) (pc' := 3) (L' := [some (.inr (.inr (some 2020))), some (.inl p2)]) (st' := [.inl 3, .inl p2]) (w' := (SH, dt)) rfl ?_
  refine go_callq PM256 PM255 (Q' := _) rfl rfl rfl rfl (sp_J0_checkIndex_df160 L xs sio (d + 0) dt hI  p2 (by first | exact h_p2 | exact bnd h_p2 (by decide) (by decide) | exact ⟨by fail, by fail⟩) 3 ⟨by decide, by decide⟩ (by first | exact True.intro | with_reducible assumption | rfl | omega | trivial)) ?_
  rintro _ _ ⟨rfl, h1⟩
  refine ⟨rfl, ?_⟩
  rcases h1 with ⟨rfl, h1⟩
  refine go_toq PM256 (k := 2) (pc' := 8) (L' := [some (.inr (.inr (some 2020))), some (.inl p2)]) (st' := [.inl p2, .inr (.inr (some 2020))]) (w' := (SH, dt)) rfl ?_
  have r2 := sby_R 20 (p2).toNat
  refine go_smpq PM256 (L' := [some (.inr (.inr (some 2020))), some (.inl p2)]) (st' := [.inl ((am_Sby.getD 20 []).getD (p2).toNat 0)]) (w' := (SH, dt)) rfl rfl (s_bald (n := 3) (f := fun q => (am_Sby.getD 20 []).getD q 0) rfl (by first | exact bndx h_p2 (by decide) (by decide) | exact ⟨by fail, by fail⟩)) ?_
  have r3 : 0 ≤ am_and ((am_Sby.getD 20 []).getD (p2).toNat 0) 255 ∧ am_and ((am_Sby.getD 20 []).getD (p2).toNat 0) 255 ≤ 255 := and_R255
  have r4 := i2c_R (am_and ((am_Sby.getD 20 []).getD (p2).toNat 0) 255)
  refine go_toq PM256 (k := 3) (pc' := 14) (L' := [some (.inr (.inr (some 2020))), some (.inl p2)]) (st' := [.inl (am_i2c (am_and ((am_Sby.getD 20 []).getD (p2).toNat 0) 255))]) (w' := (SH, dt)) rfl ?_
  refine go_retvq PM256 (v := am_i2c (am_and ((am_Sby.getD 20 []).getD (p2).toNat 0) 255)) rfl (decide_eq_true (show 0 ≤ am_i2c (am_and ((am_Sby.getD 20 []).getD (p2).toNat 0) 255) ∧ am_i2c (am_and ((am_Sby.getD 20 []).getD (p2).toNat 0) 255) < 65536 by omega)) ?_
  exact ⟨rfl, ⟨_, rfl, ⟨by omega, by omega⟩, by exact ic_id ⟨by omega, by omega⟩⟩⟩
theorem sp_J0_charAt_5068e_20f (L : Nat) (xs : Nat → Int32) (sio : Option Nat) (d : Nat) (dt : Nat → Nat → Int) (hI : InvC dt)  (p1 : Int) (h_p1 : 0 ≤ p1 ∧ p1 ≤ 2)  : GO (am_XX L xs sio) (d + 3) 250 0 [some (.inr (.inr (some 1020))), some (.inl p1)] [] (SH, dt) (fun r w2 => w2 = (SH, dt) ∧ ((∃ v : Int, r = some (.inl v) ∧ (0 ≤ v ∧ v ≤ 65535) ∧ (v = (am_Sby.getD 20 []).getD p1.toNat 0)))) := by
  refine go_toq PM250 (k := 1) (pc' := 1) (L' := [some (.inr (.inr (some 1020))), some (.inl p1)]) (st' := [.inr (.inr (some 1020))]) (w' := (SH, dt)) rfl ?_
  refine go_callq PM250 PM254 (Q' := _) rfl rfl rfl rfl (sp_J0_isLatin1_aae02_1020 L xs sio (d + 2) dt hI   ) ?_
  rintro _ _ ⟨rfl, h1⟩
  refine ⟨rfl, ?_⟩
  rcases h1 with ⟨rfl, h1⟩
  refine go_toq PM250 (k := 4) (pc' := 12) (L' := [some (.inr (.inr (some 1020))), some (.inl p1)]) (st' := [.inl p1, .inr (.inr (some 2020))]) (w' := (SH, dt)) rfl ?_
  refine go_callq PM250 PM256 (Q' := _) rfl rfl rfl rfl (sp_J1_charAt_3b067_20f L xs sio (d + 0) dt hI  p1 (by first | exact h_p1 | exact bnd h_p1 (by decide) (by decide) | exact ⟨by fail, by fail⟩) ) ?_
  rintro _ _ ⟨rfl, h2⟩
  refine ⟨rfl, ?_⟩
  rcases h2 with ⟨v_h2, rfl, h2r, h2⟩
  refine go_retvq PM250 (v := v_h2) rfl (decide_eq_true (show 0 ≤ v_h2 ∧ v_h2 < 65536 by omega)) ?_
  exact ⟨rfl, ⟨_, rfl, ⟨by omega, by omega⟩, by first | exact True.intro | with_reducible assumption | rfl | fail | trivial⟩⟩
set_option maxRecDepth 20000 in
theorem sp_X6_is_20f (L : Nat) (xs : Nat → Int32) (sio : Option Nat) (d : Nat) (dt : Nat → Nat → Int) (hI : InvC dt)   (h_p0 : dt 79 13 ≤ 500) (h_p1 : dt 79 15 ≤ dt 79 13) (h_p2 : dt 79 13 ≤ dt 79 12) : GO (am_XX L xs sio) (d + 4) 156 0 [some (.inr (.inr (some 79))), some (.inr (.inr (some 1020))), none, none] [] (SH, dt) (fun r w2 => w2 = (SH, dt) ∧ ((∃ v : Int, r = some (.inl v) ∧ (0 ≤ v ∧ v ≤ 1) ∧ (v = wm (am_Sby.getD 20 []) (mB (dt 85) (dt 79 12)) (dt 79 15).toNat (dt 79 13).toNat)))) := by
  have r1 : 0 ≤ dt 79 13 ∧ dt 79 13 ≤ 501 := InvC_get hI 79 13 rfl rfl
  have r2 : 0 ≤ dt 79 15 ∧ dt 79 15 ≤ 500 := InvC_get hI 79 15 rfl rfl
  have r3 : 0 ≤ dt 79 12 ∧ dt 79 12 ≤ 500 := InvC_get hI 79 12 rfl rfl
  have hlen : (((am_Sby.getD 20 []).length : Nat) : Int) = 3 := rfl
  refine go_toq PM156 (k := 6) (pc' := 10) (L' := [some (.inr (.inr (some 79))), some (.inr (.inr (some 1020))), none, none]) (st' := [.inr (.inr (some 1020)), .inl ((dt 79 13) - (dt 79 15))]) (w' := (SH, dt)) rfl ?_
  refine go_callq PM156 PM249 (Q' := _) rfl rfl rfl rfl (sp_J0_length_8abf5_1020 L xs sio (d + 2) dt hI   ) ?_
  rintro _ _ ⟨rfl, h4⟩
  refine ⟨rfl, ?_⟩
  rcases h4 with ⟨rfl, h4⟩
  refine go_ifq PM156 (k := 0) (p1 := 20) (p2 := 16) (L' := [some (.inr (.inr (some 79))), some (.inr (.inr (some 1020))), none, none]) (st' := []) (w' := (SH, dt)) rfl (c_ne (a := (dt 79 13) - (dt 79 15)) (b := 3) ⟨by omega, by omega⟩ ⟨by decide, by decide⟩) (fun c5 => ?_) (fun c5 => ?_)
  · skip
    replace c5 := hid c5
    refine go_toq PM156 (k := 4) (pc' := 24) (L' := [some (.inr (.inr (some 79))), some (.inr (.inr (some 1020))), some (.inl 0), some (.inl 0)]) (st' := []) (w' := (SH, dt)) rfl ?_
    have loop18 : ∀ (k_ : Nat) (l24_2 : Int) (l24_3 : Int) (i13 : 0 ≤ l24_2 ∧ l24_2 ≤ 1) (i14 : 0 ≤ l24_3 ∧ l24_3 ≤ 3) (i15 : l24_2 = 1 → WQ (am_Sby.getD 20 []) (dt 79 13 - dt 79 15) (mB (dt 85) (dt 79 12)) (dt 79 15) l24_3) (i16 : l24_2 = 0 → wm (am_Sby.getD 20 []) (mB (dt 85) (dt 79 12)) (dt 79 15).toNat (dt 79 13).toNat = 0) (i17 : l24_2 = 0 ∨ dt 79 13 - dt 79 15 = 3), (4 - l24_3).toNat < k_ → GO (am_XX L xs sio) (d + 4) 156 24 [some (.inr (.inr (some 79))), some (.inr (.inr (some 1020))), some (.inl l24_2), some (.inl l24_3)] [] (SH, dt) (fun r w2 => w2 = (SH, dt) ∧ ((∃ v : Int, r = some (.inl v) ∧ (0 ≤ v ∧ v ≤ 1) ∧ (v = wm (am_Sby.getD 20 []) (mB (dt 85) (dt 79 12)) (dt 79 15).toNat (dt 79 13).toNat)))) := by
      intro k_
      induction k_ with
      | zero => intro l24_2 l24_3 i13 i14 i15 i16 i17 hm; exact absurd hm (Nat.not_lt_zero _)
      | succ k_ ih_loop18 =>
        intro l24_2 l24_3 i13 i14 i15 i16 i17 hm
        replace i15 := hid i15
        replace i16 := hid i16
        replace i17 := hid i17
        have q1 := i15
        have q2 := i16
        refine go_toq PM156 (k := 2) (pc' := 26) (L' := [some (.inr (.inr (some 79))), some (.inr (.inr (some 1020))), some (.inl l24_2), some (.inl l24_3)]) (st' := [.inr (.inr (some 1020)), .inl l24_3]) (w' := (SH, dt)) rfl ?_
        refine go_callq PM156 PM249 (Q' := _) rfl rfl rfl rfl (sp_J0_length_8abf5_1020 L xs sio (d + 2) dt hI   ) ?_
        rintro _ _ ⟨rfl, h19⟩
        refine ⟨rfl, ?_⟩
        rcases h19 with ⟨rfl, h19⟩
        refine go_ifq PM156 (k := 0) (p1 := 67) (p2 := 32) (L' := [some (.inr (.inr (some 79))), some (.inr (.inr (some 1020))), some (.inl l24_2), some (.inl l24_3)]) (st' := []) (w' := (SH, dt)) rfl (c_ge (a := l24_3) (b := 3) (by first | exact bnd i14 (by decide) (by decide) | exact ⟨by fail, by fail⟩) ⟨by decide, by decide⟩) (fun c20 => ?_) (fun c20 => ?_)
        · skip
          refine go_toq PM156 (k := 1) (pc' := 68) (L' := [some (.inr (.inr (some 79))), some (.inr (.inr (some 1020))), some (.inl l24_2), some (.inl l24_3)]) (st' := [.inl l24_2]) (w' := (SH, dt)) rfl ?_
          refine go_retvq PM156 (v := l24_2) rfl (decide_eq_true (show l24_2 = 0 ∨ l24_2 = 1 by omega)) ?_
          exact ⟨rfl, ⟨_, rfl, ⟨by omega, by omega⟩, by rcases (show l24_2 = 0 ∨ l24_2 = 1 by omega) with z | z <;> first | (rw [q2 z]; exact z) | (rw [WM_1 (q1 z) ⟨by omega, by omega⟩ (by omega)]; exact z)⟩⟩
        · skip
          refine go_ifq PM156 (k := 1) (p1 := 67) (p2 := 36) (L' := [some (.inr (.inr (some 79))), some (.inr (.inr (some 1020))), some (.inl l24_2), some (.inl l24_3)]) (st' := []) (w' := (SH, dt)) rfl (z_eq (a := l24_2) (by first | exact bnd i13 (by decide) (by decide) | exact ⟨by fail, by fail⟩)) (fun c21 => ?_) (fun c21 => ?_)
          · skip
            refine go_toq PM156 (k := 1) (pc' := 68) (L' := [some (.inr (.inr (some 79))), some (.inr (.inr (some 1020))), some (.inl l24_2), some (.inl l24_3)]) (st' := [.inl l24_2]) (w' := (SH, dt)) rfl ?_
            refine go_retvq PM156 (v := l24_2) rfl (decide_eq_true (show l24_2 = 0 ∨ l24_2 = 1 by omega)) ?_
            exact ⟨rfl, ⟨_, rfl, ⟨by omega, by omega⟩, by rcases (show l24_2 = 0 ∨ l24_2 = 1 by omega) with z | z <;> first | (rw [q2 z]; exact z) | (rw [WM_1 (q1 z) ⟨by omega, by omega⟩ (by omega)]; exact z)⟩⟩
          · skip
            replace c21 := hid c21
            refine go_toq PM156 (k := 6) (pc' := 46) (L' := [some (.inr (.inr (some 79))), some (.inr (.inr (some 1020))), some (.inl l24_2), some (.inl l24_3)]) (st' := [.inl ((dt 79 15) + l24_3), .inr (.inr (some 85))]) (w' := (SH, dt)) rfl ?_
            have r22 : 0 ≤ dt 85 (((dt 79 15) + l24_3).toNat) ∧ dt 85 (((dt 79 15) + l24_3).toNat) ≤ 255 := InvC_get hI 85 (((dt 79 15) + l24_3).toNat) rfl rfl
            have u52_ := hid (And.intro (unhid c5) (And.intro (unhid i16) (And.intro (unhid i17) (unhid c21))))
            refine go_smpq PM156 (L' := [some (.inr (.inr (some 79))), some (.inr (.inr (some 1020))), some (.inl l24_2), some (.inl l24_3)]) (st' := [.inl (dt 85 (((dt 79 15) + l24_3).toNat))]) (w' := (SH, dt)) rfl rfl (s_iald (n := 500) (f := dt 85) rfl ⟨by omega, by (have z_ := unhid u52_; omega)⟩) ?_
            refine go_toq PM156 (k := 2) (pc' := 49) (L' := [some (.inr (.inr (some 79))), some (.inr (.inr (some 1020))), some (.inl l24_2), some (.inl l24_3)]) (st' := [.inl l24_3, .inr (.inr (some 1020)), .inl (dt 85 (((dt 79 15) + l24_3).toNat))]) (w' := (SH, dt)) rfl ?_
            refine go_callq PM156 PM250 (Q' := _) rfl rfl rfl rfl (sp_J0_charAt_5068e_20f L xs sio (d + 0) dt hI  l24_3 (by first | exact bnd i14 (by decide) (by decide) | exact bndd i14 c20 (by decide) (by decide) | exact ⟨by fail, by fail⟩) ) ?_
            rintro _ _ ⟨rfl, h23⟩
            refine ⟨rfl, ?_⟩
            rcases h23 with ⟨v_h23, rfl, h23r, h23⟩
            refine go_ifq PM156 (k := 0) (p1 := 59) (p2 := 55) (L' := [some (.inr (.inr (some 79))), some (.inr (.inr (some 1020))), some (.inl l24_2), some (.inl l24_3)]) (st' := []) (w' := (SH, dt)) rfl (c_ne (a := dt 85 (((dt 79 15) + l24_3).toNat)) (b := v_h23) (by first | exact bnd r22 (by decide) (by decide) | exact ⟨by fail, by fail⟩) (by first | exact bnd h23r (by decide) (by decide) | exact ⟨by fail, by fail⟩)) (fun c24 => ?_) (fun c24 => ?_)
            · skip
              replace c24 := hid c24
              refine go_toq PM156 (k := 4) (pc' := 24) (L' := [some (.inr (.inr (some 79))), some (.inr (.inr (some 1020))), some (.inl 0), some (.inl (l24_3 + 1))]) (st' := []) (w' := (SH, dt)) rfl ?_
              have u53_ := hid (And.intro (unhid c5) (And.intro (unhid i16) (And.intro (unhid i17) (And.intro (unhid c21) (unhid c24)))))
              exact GO.le (ih_loop18 0 (l24_3 + 1) (by first | omega | (intro z; first | fail | exact WQ_0 (by fail) (by fail) | exact WM_a ⟨by fail, by fail⟩ (by fail) | exact WQ_s (q1 (by fail)) ⟨by fail, by fail⟩ (mB_in (by fail) (by fail)).symm h23 (by fail) | exact WM_b ⟨by fail, by fail⟩ (by fail) (mB_in (by fail) (by fail)).symm h23 (by fail))) (by first | omega | (intro z; first | fail | exact WQ_0 (by fail) (by fail) | exact WM_a ⟨by fail, by fail⟩ (by fail) | exact WQ_s (q1 (by fail)) ⟨by fail, by fail⟩ (mB_in (by fail) (by fail)).symm h23 (by fail) | exact WM_b ⟨by fail, by fail⟩ (by fail) (mB_in (by fail) (by fail)).symm h23 (by fail))) (by first | omega | (intro z; first | fail | exact WQ_0 (by fail) (by fail) | exact WM_a ⟨by fail, by fail⟩ (by fail) | exact WQ_s (q1 (by fail)) ⟨by fail, by fail⟩ (mB_in (by fail) (by fail)).symm h23 (by fail) | exact WM_b ⟨by fail, by fail⟩ (by fail) (mB_in (by fail) (by fail)).symm h23 (by fail))) (by first | (have z_ := unhid u53_; omega) | (intro z; first | fail | exact WQ_0 (by fail) (by fail) | exact WM_a ⟨by fail, by fail⟩ (by fail) | exact WQ_s (q1 (by fail)) ⟨by fail, by fail⟩ (mB_in (by fail) (by fail)).symm h23 (by fail) | exact WM_b ⟨by fail, by fail⟩ (by fail) (mB_in (by fail) (by fail)).symm h23 (by fail))) (by first | omega | (intro z; first | fail | exact WQ_0 (by fail) (by fail) | exact WM_a ⟨by fail, by fail⟩ (by fail) | exact WQ_s (q1 (by fail)) ⟨by fail, by fail⟩ (mB_in (by fail) (by fail)).symm h23 (by fail) | exact WM_b ⟨by fail, by fail⟩ (by fail) (mB_in (by fail) (by fail)).symm h23 (by fail))) (by omega)) ⟨.inl rfl, .inl rfl, .inl rfl, .inl rfl, trivial⟩
            · skip
              refine go_toq PM156 (k := 5) (pc' := 24) (L' := [some (.inr (.inr (some 79))), some (.inr (.inr (some 1020))), some (.inl 1), some (.inl (l24_3 + 1))]) (st' := []) (w' := (SH, dt)) rfl ?_
              exact GO.le (ih_loop18 1 (l24_3 + 1) (by first | omega | (intro z; first | fail | exact WQ_0 (by fail) (by fail) | exact WM_a ⟨by fail, by fail⟩ (by fail) | exact WQ_s (q1 (by fail)) ⟨by fail, by fail⟩ (mB_in (by fail) (by fail)).symm h23 (by fail) | exact WM_b ⟨by fail, by fail⟩ (by fail) (mB_in (by fail) (by fail)).symm h23 (by fail))) (by first | omega | (intro z; first | fail | exact WQ_0 (by fail) (by fail) | exact WM_a ⟨by fail, by fail⟩ (by fail) | exact WQ_s (q1 (by fail)) ⟨by fail, by fail⟩ (mB_in (by fail) (by fail)).symm h23 (by fail) | exact WM_b ⟨by fail, by fail⟩ (by fail) (mB_in (by fail) (by fail)).symm h23 (by fail))) (by first | (have z_ := unhid u52_; omega) | (intro z; first | fail | exact WQ_0 (by fail) (by fail) | exact WM_a ⟨by fail, by fail⟩ (by fail) | exact WQ_s (q1 (by fail)) ⟨by fail, by fail⟩ (mB_in (by fail) (by fail)).symm h23 (by fail) | exact WM_b ⟨by fail, by fail⟩ (by fail) (mB_in (by fail) (by fail)).symm h23 (by fail))) (by first | omega | (intro z; first | fail | exact WQ_0 (by fail) (by fail) | exact WM_a ⟨by fail, by fail⟩ (by fail) | exact WQ_s (q1 (by fail)) ⟨by fail, by fail⟩ (mB_in (by fail) (by fail)).symm h23 (by fail) | exact WM_b ⟨by fail, by fail⟩ (by fail) (mB_in (by fail) (by fail)).symm h23 (by fail))) (by first | (have z_ := unhid u52_; omega) | (intro z; first | fail | exact WQ_0 (by fail) (by fail) | exact WM_a ⟨by fail, by fail⟩ (by fail) | exact WQ_s (q1 (by fail)) ⟨by fail, by fail⟩ (mB_in (by fail) (by fail)).symm h23 (by fail) | exact WM_b ⟨by fail, by fail⟩ (by fail) (mB_in (by fail) (by fail)).symm h23 (by fail))) (by omega)) ⟨.inl rfl, .inl rfl, .inl rfl, .inl rfl, trivial⟩
    exact GO.le (loop18 _ 0 0 (by first | omega | (intro z; first | fail | exact WQ_0 (by fail) (by fail) | exact WM_a ⟨by fail, by fail⟩ (by fail) | exact WQ_s (q1 (by fail)) ⟨by fail, by fail⟩ (mB_in (by fail) (by fail)).symm hI (by fail) | exact WM_b ⟨by fail, by fail⟩ (by fail) (mB_in (by fail) (by fail)).symm hI (by fail))) (by first | omega | (intro z; first | fail | exact WQ_0 (by fail) (by fail) | exact WM_a ⟨by fail, by fail⟩ (by fail) | exact WQ_s (q1 (by fail)) ⟨by fail, by fail⟩ (mB_in (by fail) (by fail)).symm hI (by fail) | exact WM_b ⟨by fail, by fail⟩ (by fail) (mB_in (by fail) (by fail)).symm hI (by fail))) (by first | omega | (intro z; first | fail | exact WQ_0 (by fail) (by fail) | exact WM_a ⟨by fail, by fail⟩ (by fail) | exact WQ_s (q1 (by fail)) ⟨by fail, by fail⟩ (mB_in (by fail) (by fail)).symm hI (by fail) | exact WM_b ⟨by fail, by fail⟩ (by fail) (mB_in (by fail) (by fail)).symm hI (by fail))) (by first | fail | (intro z; first | fail | exact WQ_0 (by fail) (by fail) | exact WM_a ⟨by omega, by omega⟩ (by (have z0_ := unhid c5; omega)) | exact WQ_s (q1 (by fail)) ⟨by fail, by fail⟩ (mB_in (by fail) (by fail)).symm hI (by fail) | exact WM_b ⟨by fail, by fail⟩ (by fail) (mB_in (by fail) (by fail)).symm hI (by fail))) (by first | omega | (intro z; first | fail | exact WQ_0 (by fail) (by fail) | exact WM_a ⟨by fail, by fail⟩ (by fail) | exact WQ_s (q1 (by fail)) ⟨by fail, by fail⟩ (mB_in (by fail) (by fail)).symm hI (by fail) | exact WM_b ⟨by fail, by fail⟩ (by fail) (mB_in (by fail) (by fail)).symm hI (by fail))) (Nat.lt_succ_self _)) ⟨.inl rfl, .inl rfl, .inl rfl, .inl rfl, trivial⟩
  · skip
    refine go_toq PM156 (k := 5) (pc' := 24) (L' := [some (.inr (.inr (some 79))), some (.inr (.inr (some 1020))), some (.inl 1), some (.inl 0)]) (st' := []) (w' := (SH, dt)) rfl ?_
    have loop37 : ∀ (k_ : Nat) (l24_2 : Int) (l24_3 : Int) (i32 : 0 ≤ l24_2 ∧ l24_2 ≤ 1) (i33 : 0 ≤ l24_3 ∧ l24_3 ≤ 3) (i34 : l24_2 = 1 → WQ (am_Sby.getD 20 []) (dt 79 13 - dt 79 15) (mB (dt 85) (dt 79 12)) (dt 79 15) l24_3) (i35 : l24_2 = 0 → wm (am_Sby.getD 20 []) (mB (dt 85) (dt 79 12)) (dt 79 15).toNat (dt 79 13).toNat = 0) (i36 : l24_2 = 0 ∨ dt 79 13 - dt 79 15 = 3), (4 - l24_3).toNat < k_ → GO (am_XX L xs sio) (d + 4) 156 24 [some (.inr (.inr (some 79))), some (.inr (.inr (some 1020))), some (.inl l24_2), some (.inl l24_3)] [] (SH, dt) (fun r w2 => w2 = (SH, dt) ∧ ((∃ v : Int, r = some (.inl v) ∧ (0 ≤ v ∧ v ≤ 1) ∧ (v = wm (am_Sby.getD 20 []) (mB (dt 85) (dt 79 12)) (dt 79 15).toNat (dt 79 13).toNat)))) := by
      intro k_
      induction k_ with
      | zero => intro l24_2 l24_3 i32 i33 i34 i35 i36 hm; exact absurd hm (Nat.not_lt_zero _)
      | succ k_ ih_loop37 =>
        intro l24_2 l24_3 i32 i33 i34 i35 i36 hm
        replace i34 := hid i34
        replace i35 := hid i35
        replace i36 := hid i36
        have q1 := i34
        have q2 := i35
        refine go_toq PM156 (k := 2) (pc' := 26) (L' := [some (.inr (.inr (some 79))), some (.inr (.inr (some 1020))), some (.inl l24_2), some (.inl l24_3)]) (st' := [.inr (.inr (some 1020)), .inl l24_3]) (w' := (SH, dt)) rfl ?_
        refine go_callq PM156 PM249 (Q' := _) rfl rfl rfl rfl (sp_J0_length_8abf5_1020 L xs sio (d + 2) dt hI   ) ?_
        rintro _ _ ⟨rfl, h38⟩
        refine ⟨rfl, ?_⟩
        rcases h38 with ⟨rfl, h38⟩
        refine go_ifq PM156 (k := 0) (p1 := 67) (p2 := 32) (L' := [some (.inr (.inr (some 79))), some (.inr (.inr (some 1020))), some (.inl l24_2), some (.inl l24_3)]) (st' := []) (w' := (SH, dt)) rfl (c_ge (a := l24_3) (b := 3) (by first | exact bnd i33 (by decide) (by decide) | exact ⟨by fail, by fail⟩) ⟨by decide, by decide⟩) (fun c39 => ?_) (fun c39 => ?_)
        · skip
          refine go_toq PM156 (k := 1) (pc' := 68) (L' := [some (.inr (.inr (some 79))), some (.inr (.inr (some 1020))), some (.inl l24_2), some (.inl l24_3)]) (st' := [.inl l24_2]) (w' := (SH, dt)) rfl ?_
          refine go_retvq PM156 (v := l24_2) rfl (decide_eq_true (show l24_2 = 0 ∨ l24_2 = 1 by omega)) ?_
          exact ⟨rfl, ⟨_, rfl, ⟨by omega, by omega⟩, by rcases (show l24_2 = 0 ∨ l24_2 = 1 by omega) with z | z <;> first | (rw [q2 z]; exact z) | (rw [WM_1 (q1 z) ⟨by omega, by omega⟩ (by omega)]; exact z)⟩⟩
        · skip
          refine go_ifq PM156 (k := 1) (p1 := 67) (p2 := 36) (L' := [some (.inr (.inr (some 79))), some (.inr (.inr (some 1020))), some (.inl l24_2), some (.inl l24_3)]) (st' := []) (w' := (SH, dt)) rfl (z_eq (a := l24_2) (by first | exact bnd i32 (by decide) (by decide) | exact ⟨by fail, by fail⟩)) (fun c40 => ?_) (fun c40 => ?_)
          · skip
            refine go_toq PM156 (k := 1) (pc' := 68) (L' := [some (.inr (.inr (some 79))), some (.inr (.inr (some 1020))), some (.inl l24_2), some (.inl l24_3)]) (st' := [.inl l24_2]) (w' := (SH, dt)) rfl ?_
            refine go_retvq PM156 (v := l24_2) rfl (decide_eq_true (show l24_2 = 0 ∨ l24_2 = 1 by omega)) ?_
            exact ⟨rfl, ⟨_, rfl, ⟨by omega, by omega⟩, by rcases (show l24_2 = 0 ∨ l24_2 = 1 by omega) with z | z <;> first | (rw [q2 z]; exact z) | (rw [WM_1 (q1 z) ⟨by omega, by omega⟩ (by omega)]; exact z)⟩⟩
          · skip
            replace c40 := hid c40
            refine go_toq PM156 (k := 6) (pc' := 46) (L' := [some (.inr (.inr (some 79))), some (.inr (.inr (some 1020))), some (.inl l24_2), some (.inl l24_3)]) (st' := [.inl ((dt 79 15) + l24_3), .inr (.inr (some 85))]) (w' := (SH, dt)) rfl ?_
            have r41 : 0 ≤ dt 85 (((dt 79 15) + l24_3).toNat) ∧ dt 85 (((dt 79 15) + l24_3).toNat) ≤ 255 := InvC_get hI 85 (((dt 79 15) + l24_3).toNat) rfl rfl
            refine go_smpq PM156 (L' := [some (.inr (.inr (some 79))), some (.inr (.inr (some 1020))), some (.inl l24_2), some (.inl l24_3)]) (st' := [.inl (dt 85 (((dt 79 15) + l24_3).toNat))]) (w' := (SH, dt)) rfl rfl (s_iald (n := 500) (f := dt 85) rfl ⟨by omega, by omega⟩) ?_
            refine go_toq PM156 (k := 2) (pc' := 49) (L' := [some (.inr (.inr (some 79))), some (.inr (.inr (some 1020))), some (.inl l24_2), some (.inl l24_3)]) (st' := [.inl l24_3, .inr (.inr (some 1020)), .inl (dt 85 (((dt 79 15) + l24_3).toNat))]) (w' := (SH, dt)) rfl ?_
            refine go_callq PM156 PM250 (Q' := _) rfl rfl rfl rfl (sp_J0_charAt_5068e_20f L xs sio (d + 0) dt hI  l24_3 (by first | exact bnd i33 (by decide) (by decide) | exact bndd i33 c39 (by decide) (by decide) | exact ⟨by fail, by fail⟩) ) ?_
            rintro _ _ ⟨rfl, h42⟩
            refine ⟨rfl, ?_⟩
            rcases h42 with ⟨v_h42, rfl, h42r, h42⟩
            refine go_ifq PM156 (k := 0) (p1 := 59) (p2 := 55) (L' := [some (.inr (.inr (some 79))), some (.inr (.inr (some 1020))), some (.inl l24_2), some (.inl l24_3)]) (st' := []) (w' := (SH, dt)) rfl (c_ne (a := dt 85 (((dt 79 15) + l24_3).toNat)) (b := v_h42) (by first | exact bnd r41 (by decide) (by decide) | exact ⟨by fail, by fail⟩) (by first | exact bnd h42r (by decide) (by decide) | exact ⟨by fail, by fail⟩)) (fun c43 => ?_) (fun c43 => ?_)
            · skip
              replace c43 := hid c43
              refine go_toq PM156 (k := 4) (pc' := 24) (L' := [some (.inr (.inr (some 79))), some (.inr (.inr (some 1020))), some (.inl 0), some (.inl (l24_3 + 1))]) (st' := []) (w' := (SH, dt)) rfl ?_
              have u54_ := hid (And.intro (unhid i35) (And.intro (unhid i36) (And.intro (unhid c40) (unhid c43))))
              exact GO.le (ih_loop37 0 (l24_3 + 1) (by first | omega | (intro z; first | fail | exact WQ_0 (by fail) (by fail) | exact WM_a ⟨by fail, by fail⟩ (by fail) | exact WQ_s (q1 (by fail)) ⟨by fail, by fail⟩ (mB_in (by fail) (by fail)).symm h42 (by fail) | exact WM_b ⟨by fail, by fail⟩ (by fail) (mB_in (by fail) (by fail)).symm h42 (by fail))) (by first | omega | (intro z; first | fail | exact WQ_0 (by fail) (by fail) | exact WM_a ⟨by fail, by fail⟩ (by fail) | exact WQ_s (q1 (by fail)) ⟨by fail, by fail⟩ (mB_in (by fail) (by fail)).symm h42 (by fail) | exact WM_b ⟨by fail, by fail⟩ (by fail) (mB_in (by fail) (by fail)).symm h42 (by fail))) (by first | omega | (intro z; first | fail | exact WQ_0 (by fail) (by fail) | exact WM_a ⟨by fail, by fail⟩ (by fail) | exact WQ_s (q1 (by fail)) ⟨by fail, by fail⟩ (mB_in (by fail) (by fail)).symm h42 (by fail) | exact WM_b ⟨by fail, by fail⟩ (by fail) (mB_in (by fail) (by fail)).symm h42 (by fail))) (by first | fail | (intro z; first | fail | exact WQ_0 (by fail) (by fail) | exact WM_a ⟨by omega, by omega⟩ (by fail) | exact WQ_s (q1 (by (have z_ := unhid u54_; omega))) ⟨by omega, by omega⟩ (mB_in (by omega) (by omega)).symm h42 (by fail) | exact WM_b ⟨by omega, by omega⟩ (by omega) (mB_in (by omega) (by omega)).symm h42 (by (have z_ := unhid u54_; omega)))) (by first | omega | (intro z; first | fail | exact WQ_0 (by fail) (by fail) | exact WM_a ⟨by fail, by fail⟩ (by fail) | exact WQ_s (q1 (by fail)) ⟨by fail, by fail⟩ (mB_in (by fail) (by fail)).symm h42 (by fail) | exact WM_b ⟨by fail, by fail⟩ (by fail) (mB_in (by fail) (by fail)).symm h42 (by fail))) (by omega)) ⟨.inl rfl, .inl rfl, .inl rfl, .inl rfl, trivial⟩
            · skip
              refine go_toq PM156 (k := 5) (pc' := 24) (L' := [some (.inr (.inr (some 79))), some (.inr (.inr (some 1020))), some (.inl 1), some (.inl (l24_3 + 1))]) (st' := []) (w' := (SH, dt)) rfl ?_
              exact GO.le (ih_loop37 1 (l24_3 + 1) (by first | omega | (intro z; first | fail | exact WQ_0 (by fail) (by fail) | exact WM_a ⟨by fail, by fail⟩ (by fail) | exact WQ_s (q1 (by fail)) ⟨by fail, by fail⟩ (mB_in (by fail) (by fail)).symm h42 (by fail) | exact WM_b ⟨by fail, by fail⟩ (by fail) (mB_in (by fail) (by fail)).symm h42 (by fail))) (by first | omega | (intro z; first | fail | exact WQ_0 (by fail) (by fail) | exact WM_a ⟨by fail, by fail⟩ (by fail) | exact WQ_s (q1 (by fail)) ⟨by fail, by fail⟩ (mB_in (by fail) (by fail)).symm h42 (by fail) | exact WM_b ⟨by fail, by fail⟩ (by fail) (mB_in (by fail) (by fail)).symm h42 (by fail))) (by first | fail | (intro z; first | fail | exact WQ_0 (by omega) (by fail) | exact WM_a ⟨by fail, by fail⟩ (by fail) | exact WQ_s (q1 (by (have z0_ := unhid i35; have z1_ := unhid i36; have z2_ := unhid c40; omega))) ⟨by omega, by omega⟩ (mB_in (by omega) (by omega)).symm h42 (by omega) | exact WM_b ⟨by fail, by fail⟩ (by fail) (mB_in (by fail) (by fail)).symm h42 (by fail))) (by first | omega | (intro z; first | fail | exact WQ_0 (by fail) (by fail) | exact WM_a ⟨by fail, by fail⟩ (by fail) | exact WQ_s (q1 (by fail)) ⟨by fail, by fail⟩ (mB_in (by fail) (by fail)).symm h42 (by fail) | exact WM_b ⟨by fail, by fail⟩ (by fail) (mB_in (by fail) (by fail)).symm h42 (by fail))) (by first | omega | (intro z; first | fail | exact WQ_0 (by fail) (by fail) | exact WM_a ⟨by fail, by fail⟩ (by fail) | exact WQ_s (q1 (by fail)) ⟨by fail, by fail⟩ (mB_in (by fail) (by fail)).symm h42 (by fail) | exact WM_b ⟨by fail, by fail⟩ (by fail) (mB_in (by fail) (by fail)).symm h42 (by fail))) (by omega)) ⟨.inl rfl, .inl rfl, .inl rfl, .inl rfl, trivial⟩
    exact GO.le (loop37 _ 1 0 (by first | omega | (intro z; first | fail | exact WQ_0 (by fail) (by fail) | exact WM_a ⟨by fail, by fail⟩ (by fail) | exact WQ_s (q1 (by fail)) ⟨by fail, by fail⟩ (mB_in (by fail) (by fail)).symm hI (by fail) | exact WM_b ⟨by fail, by fail⟩ (by fail) (mB_in (by fail) (by fail)).symm hI (by fail))) (by first | omega | (intro z; first | fail | exact WQ_0 (by fail) (by fail) | exact WM_a ⟨by fail, by fail⟩ (by fail) | exact WQ_s (q1 (by fail)) ⟨by fail, by fail⟩ (mB_in (by fail) (by fail)).symm hI (by fail) | exact WM_b ⟨by fail, by fail⟩ (by fail) (mB_in (by fail) (by fail)).symm hI (by fail))) (by first | fail | (intro z; first | fail | exact WQ_0 (by omega) (by omega) | exact WM_a ⟨by fail, by fail⟩ (by fail) | exact WQ_s (q1 (by fail)) ⟨by fail, by fail⟩ (mB_in (by fail) (by fail)).symm hI (by fail) | exact WM_b ⟨by fail, by fail⟩ (by fail) (mB_in (by fail) (by fail)).symm hI (by fail))) (by first | omega | (intro z; first | fail | exact WQ_0 (by fail) (by fail) | exact WM_a ⟨by fail, by fail⟩ (by fail) | exact WQ_s (q1 (by fail)) ⟨by fail, by fail⟩ (mB_in (by fail) (by fail)).symm hI (by fail) | exact WM_b ⟨by fail, by fail⟩ (by fail) (mB_in (by fail) (by fail)).symm hI (by fail))) (by first | omega | (intro z; first | fail | exact WQ_0 (by fail) (by fail) | exact WM_a ⟨by fail, by fail⟩ (by fail) | exact WQ_s (q1 (by fail)) ⟨by fail, by fail⟩ (mB_in (by fail) (by fail)).symm hI (by fail) | exact WM_b ⟨by fail, by fail⟩ (by fail) (mB_in (by fail) (by fail)).symm hI (by fail))) (Nat.lt_succ_self _)) ⟨.inl rfl, .inl rfl, .inl rfl, .inl rfl, trivial⟩
theorem sp_J1_charAt_3b067_21f (L : Nat) (xs : Nat → Int32) (sio : Option Nat) (d : Nat) (dt : Nat → Nat → Int) (hI : InvC dt)  (p2 : Int) (h_p2 : 0 ≤ p2 ∧ p2 ≤ 4)  : GO (am_XX L xs sio) (d + 2) 256 0 [some (.inr (.inr (some 2021))), some (.inl p2)] [] (SH, dt) (fun r w2 => w2 = (SH, dt) ∧ ((∃ v : Int, r = some (.inl v) ∧ (0 ≤ v ∧ v ≤ 65535) ∧ (v = (am_Sby.getD 21 []).getD p2.toNat 0)))) := by
  refine go_toq PM256 (k := 3) (pc' := 3) (L' := [some (.inr (.inr (some 2021))), some (.inl p2)]) (st' := [.inl 5, .inl p2]) (w' := (SH, dt)) rfl ?_
  refine go_callq PM256 PM255 (Q' := _) rfl rfl rfl rfl (sp_J0_checkIndex_df160 L xs sio (d + 0) dt hI  p2 (by first | exact h_p2 | exact bnd h_p2 (by decide) (by decide) | exact ⟨by fail, by fail⟩) 5 ⟨by decide, by decide⟩ (by first | exact True.intro | with_reducible assumption | rfl | omega | trivial)) ?_
  rintro _ _ ⟨rfl, h1⟩
  refine ⟨rfl, ?_⟩
  rcases h1 with ⟨rfl, h1⟩
  refine go_toq PM256 (k := 2) (pc' := 8) (L' := [some (.inr (.inr (some 2021))), some (.inl p2)]) (st' := [.inl p2, .inr (.inr (some 2021))]) (w' := (SH, dt)) rfl ?_
  have r2 := sby_R 21 (p2).toNat
  refine go_smpq PM256 (L' := [some (.inr (.inr (some 2021))), some (.inl p2)]) (st' := [.inl ((am_Sby.getD 21 []).getD (p2).toNat 0)]) (w' := (SH, dt)) rfl rfl (s_bald (n := 5) (f := fun q => (am_Sby.getD 21 []).getD q 0) rfl (by first | exact bndx h_p2 (by decide) (by decide) | exact ⟨by fail, by fail⟩)) ?_
  have r3 : 0 ≤ am_and ((am_Sby.getD 21 []).getD (p2).toNat 0) 255 ∧ am_and ((am_Sby.getD 21 []).getD (p2).toNat 0) 255 ≤ 255 := and_R255
  have r4 := i2c_R (am_and ((am_Sby.getD 21 []).getD (p2).toNat 0) 255)
  refine go_toq PM256 (k := 3) (pc' := 14) (L' := [some (.inr (.inr (some 2021))), some (.inl p2)]) (st' := [.inl (am_i2c (am_and ((am_Sby.getD 21 []).getD (p2).toNat 0) 255))]) (w' := (SH, dt)) rfl ?_
  refine go_retvq PM256 (v := am_i2c (am_and ((am_Sby.getD 21 []).getD (p2).toNat 0) 255)) rfl (decide_eq_true (show 0 ≤ am_i2c (am_and ((am_Sby.getD 21 []).getD (p2).toNat 0) 255) ∧ am_i2c (am_and ((am_Sby.getD 21 []).getD (p2).toNat 0) 255) < 65536 by omega)) ?_
  exact ⟨rfl, ⟨_, rfl, ⟨by omega, by omega⟩, by exact ic_id ⟨by omega, by omega⟩⟩⟩
theorem sp_J0_charAt_5068e_21f (L : Nat) (xs : Nat → Int32) (sio : Option Nat) (d : Nat) (dt : Nat → Nat → Int) (hI : InvC dt)  (p1 : Int) (h_p1 : 0 ≤ p1 ∧ p1 ≤ 4)  : GO (am_XX L xs sio) (d + 3) 250 0 [some (.inr (.inr (some 1021))), some (.inl p1)] [] (SH, dt) (fun r w2 => w2 = (SH, dt) ∧ ((∃ v : Int, r = some (.inl v) ∧ (0 ≤ v ∧ v ≤ 65535) ∧ (v = (am_Sby.getD 21 []).getD p1.toNat 0)))) := by
  refine go_toq PM250 (k := 1) (pc' := 1) (L' := [some (.inr (.inr (some 1021))), some (.inl p1)]) (st' := [.inr (.inr (some 1021))]) (w' := (SH, dt)) rfl ?_
  refine go_callq PM250 PM254 (Q' := _) rfl rfl rfl rfl (sp_J0_isLatin1_aae02_1021 L xs sio (d + 2) dt hI   ) ?_
  rintro _ _ ⟨rfl, h1⟩
  refine ⟨rfl, ?_⟩
  rcases h1 with ⟨rfl, h1⟩
  refine go_toq PM250 (k := 4) (pc' := 12) (L' := [some (.inr (.inr (some 1021))), some (.inl p1)]) (st' := [.inl p1, .inr (.inr (some 2021))]) (w' := (SH, dt)) rfl ?_
  refine go_callq PM250 PM256 (Q' := _) rfl rfl rfl rfl (sp_J1_charAt_3b067_21f L xs sio (d + 0) dt hI  p1 (by first | exact h_p1 | exact bnd h_p1 (by decide) (by decide) | exact ⟨by fail, by fail⟩) ) ?_
  rintro _ _ ⟨rfl, h2⟩
  refine ⟨rfl, ?_⟩
  rcases h2 with ⟨v_h2, rfl, h2r, h2⟩
  refine go_retvq PM250 (v := v_h2) rfl (decide_eq_true (show 0 ≤ v_h2 ∧ v_h2 < 65536 by omega)) ?_
  exact ⟨rfl, ⟨_, rfl, ⟨by omega, by omega⟩, by first | exact True.intro | with_reducible assumption | rfl | fail | trivial⟩⟩
set_option maxRecDepth 20000 in
theorem sp_X6_is_21f (L : Nat) (xs : Nat → Int32) (sio : Option Nat) (d : Nat) (dt : Nat → Nat → Int) (hI : InvC dt)   (h_p0 : dt 79 13 ≤ 500) (h_p1 : dt 79 15 ≤ dt 79 13) (h_p2 : dt 79 13 ≤ dt 79 12) : GO (am_XX L xs sio) (d + 4) 156 0 [some (.inr (.inr (some 79))), some (.inr (.inr (some 1021))), none, none] [] (SH, dt) (fun r w2 => w2 = (SH, dt) ∧ ((∃ v : Int, r = some (.inl v) ∧ (0 ≤ v ∧ v ≤ 1) ∧ (v = wm (am_Sby.getD 21 []) (mB (dt 85) (dt 79 12)) (dt 79 15).toNat (dt 79 13).toNat)))) := by
  have r1 : 0 ≤ dt 79 13 ∧ dt 79 13 ≤ 501 := InvC_get hI 79 13 rfl rfl
  have r2 : 0 ≤ dt 79 15 ∧ dt 79 15 ≤ 500 := InvC_get hI 79 15 rfl rfl
  have r3 : 0 ≤ dt 79 12 ∧ dt 79 12 ≤ 500 := InvC_get hI 79 12 rfl rfl
  have hlen : (((am_Sby.getD 21 []).length : Nat) : Int) = 5 := rfl
  refine go_toq PM156 (k := 6) (pc' := 10) (L' := [some (.inr (.inr (some 79))), some (.inr (.inr (some 1021))), none, none]) (st' := [.inr (.inr (some 1021)), .inl ((dt 79 13) - (dt 79 15))]) (w' := (SH, dt)) rfl ?_
  refine go_callq PM156 PM249 (Q' := _) rfl rfl rfl rfl (sp_J0_length_8abf5_1021 L xs sio (d + 2) dt hI   ) ?_
  rintro _ _ ⟨rfl, h4⟩
  refine ⟨rfl, ?_⟩
  rcases h4 with ⟨rfl, h4⟩
  refine go_ifq PM156 (k := 0) (p1 := 20) (p2 := 16) (L' := [some (.inr (.inr (some 79))), some (.inr (.inr (some 1021))), none, none]) (st' := []) (w' := (SH, dt)) rfl (c_ne (a := (dt 79 13) - (dt 79 15)) (b := 5) ⟨by omega, by omega⟩ ⟨by decide, by decide⟩) (fun c5 => ?_) (fun c5 => ?_)
  · skip
    replace c5 := hid c5
    refine go_toq PM156 (k := 4) (pc' := 24) (L' := [some (.inr (.inr (some 79))), some (.inr (.inr (some 1021))), some (.inl 0), some (.inl 0)]) (st' := []) (w' := (SH, dt)) rfl ?_
    have loop18 : ∀ (k_ : Nat) (l24_2 : Int) (l24_3 : Int) (i13 : 0 ≤ l24_2 ∧ l24_2 ≤ 1) (i14 : 0 ≤ l24_3 ∧ l24_3 ≤ 5) (i15 : l24_2 = 1 → WQ (am_Sby.getD 21 []) (dt 79 13 - dt 79 15) (mB (dt 85) (dt 79 12)) (dt 79 15) l24_3) (i16 : l24_2 = 0 → wm (am_Sby.getD 21 []) (mB (dt 85) (dt 79 12)) (dt 79 15).toNat (dt 79 13).toNat = 0) (i17 : l24_2 = 0 ∨ dt 79 13 - dt 79 15 = 5), (6 - l24_3).toNat < k_ → GO (am_XX L xs sio) (d + 4) 156 24 [some (.inr (.inr (some 79))), some (.inr (.inr (some 1021))), some (.inl l24_2), some (.inl l24_3)] [] (SH, dt) (fun r w2 => w2 = (SH, dt) ∧ ((∃ v : Int, r = some (.inl v) ∧ (0 ≤ v ∧ v ≤ 1) ∧ (v = wm (am_Sby.getD 21 []) (mB (dt 85) (dt 79 12)) (dt 79 15).toNat (dt 79 13).toNat)))) := by
      intro k_
      induction k_ with
      | zero => intro l24_2 l24_3 i13 i14 i15 i16 i17 hm; exact absurd hm (Nat.not_lt_zero _)
      | succ k_ ih_loop18 =>
        intro l24_2 l24_3 i13 i14 i15 i16 i17 hm
        replace i15 := hid i15
        replace i16 := hid i16
        replace i17 := hid i17
        have q1 := i15
        have q2 := i16
        refine go_toq PM156 (k := 2) (pc' := 26) (L' := [some (.inr (.inr (some 79))), some (.inr (.inr (some 1021))), some (.inl l24_2), some (.inl l24_3)]) (st' := [.inr (.inr (some 1021)), .inl l24_3]) (w' := (SH, dt)) rfl ?_
        refine go_callq PM156 PM249 (Q' := _) rfl rfl rfl rfl (sp_J0_length_8abf5_1021 L xs sio (d + 2) dt hI   ) ?_
        rintro _ _ ⟨rfl, h19⟩
        refine ⟨rfl, ?_⟩
        rcases h19 with ⟨rfl, h19⟩
        refine go_ifq PM156 (k := 0) (p1 := 67) (p2 := 32) (L' := [some (.inr (.inr (some 79))), some (.inr (.inr (some 1021))), some (.inl l24_2), some (.inl l24_3)]) (st' := []) (w' := (SH, dt)) rfl (c_ge (a := l24_3) (b := 5) (by first | exact bnd i14 (by decide) (by decide) | exact ⟨by fail, by fail⟩) ⟨by decide, by decide⟩) (fun c20 => ?_) (fun c20 => ?_)
        · skip
          refine go_toq PM156 (k := 1) (pc' := 68) (L' := [some (.inr (.inr (some 79))), some (.inr (.inr (some 1021))), some (.inl l24_2), some (.inl l24_3)]) (st' := [.inl l24_2]) (w' := (SH, dt)) rfl ?_
          refine go_retvq PM156 (v := l24_2) rfl (decide_eq_true (show l24_2 = 0 ∨ l24_2 = 1 by omega)) ?_
          exact ⟨rfl, ⟨_, rfl, ⟨by omega, by omega⟩, by rcases (show l24_2 = 0 ∨ l24_2 = 1 by omega) with z | z <;> first | (rw [q2 z]; exact z) | (rw [WM_1 (q1 z) ⟨by omega, by omega⟩ (by omega)]; exact z)⟩⟩
        · skip
          refine go_ifq PM156 (k := 1) (p1 := 67) (p2 := 36) (L' := [some (.inr (.inr (some 79))), some (.inr (.inr (some 1021))), some (.inl l24_2), some (.inl l24_3)]) (st' := []) (w' := (SH, dt)) rfl (z_eq (a := l24_2) (by first | exact bnd i13 (by decide) (by decide) | exact ⟨by fail, by fail⟩)) (fun c21 => ?_) (fun c21 => ?_)
          · skip
            refine go_toq PM156 (k := 1) (pc' := 68) (L' := [some (.inr (.inr (some 79))), some (.inr (.inr (some 1021))), some (.inl l24_2), some (.inl l24_3)]) (st' := [.inl l24_2]) (w' := (SH, dt)) rfl ?_
            refine go_retvq PM156 (v := l24_2) rfl (decide_eq_true (show l24_2 = 0 ∨ l24_2 = 1 by omega)) ?_
            exact ⟨rfl, ⟨_, rfl, ⟨by omega, by omega⟩, by rcases (show l24_2 = 0 ∨ l24_2 = 1 by omega) with z | z <;> first | (rw [q2 z]; exact z) | (rw [WM_1 (q1 z) ⟨by omega, by omega⟩ (by omega)]; exact z)⟩⟩
          · skip
            replace c21 := hid c21
            refine go_toq PM156 (k := 6) (pc' := 46) (L' := [some (.inr (.inr (some 79))), some (.inr (.inr (some 1021))), some (.inl l24_2), some (.inl l24_3)]) (st' := [.inl ((dt 79 15) + l24_3), .inr (.inr (some 85))]) (w' := (SH, dt)) rfl ?_
            have r22 : 0 ≤ dt 85 (((dt 79 15) + l24_3).toNat) ∧ dt 85 (((dt 79 15) + l24_3).toNat) ≤ 255 := InvC_get hI 85 (((dt 79 15) + l24_3).toNat) rfl rfl
            have u55_ := hid (And.intro (unhid c5) (And.intro (unhid i16) (And.intro (unhid i17) (unhid c21))))
            refine go_smpq PM156 (L' := [some (.inr (.inr (some 79))), some (.inr (.inr (some 1021))), some (.inl l24_2), some (.inl l24_3)]) (st' := [.inl (dt 85 (((dt 79 15) + l24_3).toNat))]) (w' := (SH, dt)) rfl rfl (s_iald (n := 500) (f := dt 85) rfl ⟨by omega, by (have z_ := unhid u55_; omega)⟩) ?_
            refine go_toq PM156 (k := 2) (pc' := 49) (L' := [some (.inr (.inr (some 79))), some (.inr (.inr (some 1021))), some (.inl l24_2), some (.inl l24_3)]) (st' := [.inl l24_3, .inr (.inr (some 1021)), .inl (dt 85 (((dt 79 15) + l24_3).toNat))]) (w' := (SH, dt)) rfl ?_
            refine go_callq PM156 PM250 (Q' := _) rfl rfl rfl rfl (sp_J0_charAt_5068e_21f L xs sio (d + 0) dt hI  l24_3 (by first | exact bnd i14 (by decide) (by decide) | exact bndd i14 c20 (by decide) (by decide) | exact ⟨by fail, by fail⟩) ) ?_
            rintro _ _ ⟨rfl, h23⟩
            refine ⟨rfl, ?_⟩
            rcases h23 with ⟨v_h23, rfl, h23r, h23⟩
            refine go_ifq PM156 (k := 0) (p1 := 59) (p2 := 55) (L' := [some (.inr (.inr (some 79))), some (.inr (.inr (some 1021))), some (.inl l24_2), some (.inl l24_3)]) (st' := []) (w' := (SH, dt)) rfl (c_ne (a := dt 85 (((dt 79 15) + l24_3).toNat)) (b := v_h23) (by first | exact bnd r22 (by decide) (by decide) | exact ⟨by fail, by fail⟩) (by first | exact bnd h23r (by decide) (by decide) | exact ⟨by fail, by fail⟩)) (fun c24 => ?_) (fun c24 => ?_)
            · skip
              replace c24 := hid c24
              refine go_toq PM156 (k := 4) (pc' := 24) (L' := [some (.inr (.inr (some 79))), some (.inr (.inr (some 1021))), some (.inl 0), some (.inl (l24_3 + 1))]) (st' := []) (w' := (SH, dt)) rfl ?_
              have u56_ := hid (And.intro (unhid c5) (And.intro (unhid i16) (And.intro (unhid i17) (And.intro (unhid c21) (unhid c24)))))
              exact GO.le (ih_loop18 0 (l24_3 + 1) (by first | omega | (intro z; first | fail | exact WQ_0 (by fail) (by fail) | exact WM_a ⟨by fail, by fail⟩ (by fail) | exact WQ_s (q1 (by fail)) ⟨by fail, by fail⟩ (mB_in (by fail) (by fail)).symm h23 (by fail) | exact WM_b ⟨by fail, by fail⟩ (by fail) (mB_in (by fail) (by fail)).symm h23 (by fail))) (by first | omega | (intro z; first | fail | exact WQ_0 (by fail) (by fail) | exact WM_a ⟨by fail, by fail⟩ (by fail) | exact WQ_s (q1 (by fail)) ⟨by fail, by fail⟩ (mB_in (by fail) (by fail)).symm h23 (by fail) | exact WM_b ⟨by fail, by fail⟩ (by fail) (mB_in (by fail) (by fail)).symm h23 (by fail))) (by first | omega | (intro z; first | fail | exact WQ_0 (by fail) (by fail) | exact WM_a ⟨by fail, by fail⟩ (by fail) | exact WQ_s (q1 (by fail)) ⟨by fail, by fail⟩ (mB_in (by fail) (by fail)).symm h23 (by fail) | exact WM_b ⟨by fail, by fail⟩ (by fail) (mB_in (by fail) (by fail)).symm h23 (by fail))) (by first | (have z_ := unhid u56_; omega) | (intro z; first | fail | exact WQ_0 (by fail) (by fail) | exact WM_a ⟨by fail, by fail⟩ (by fail) | exact WQ_s (q1 (by fail)) ⟨by fail, by fail⟩ (mB_in (by fail) (by fail)).symm h23 (by fail) | exact WM_b ⟨by fail, by fail⟩ (by fail) (mB_in (by fail) (by fail)).symm h23 (by fail))) (by first | omega | (intro z; first | fail | exact WQ_0 (by fail) (by fail) | exact WM_a ⟨by fail, by fail⟩ (by fail) | exact WQ_s (q1 (by fail)) ⟨by fail, by fail⟩ (mB_in (by fail) (by fail)).symm h23 (by fail) | exact WM_b ⟨by fail, by fail⟩ (by fail) (mB_in (by fail) (by fail)).symm h23 (by fail))) (by omega)) ⟨.inl rfl, .inl rfl, .inl rfl, .inl rfl, trivial⟩
            · skip
              refine go_toq PM156 (k := 5) (pc' := 24) (L' := [some (.inr (.inr (some 79))), some (.inr (.inr (some 1021))), some (.inl 1), some (.inl (l24_3 + 1))]) (st' := []) (w' := (SH, dt)) rfl ?_
              exact GO.le (ih_loop18 1 (l24_3 + 1) (by first | omega | (intro z; first | fail | exact WQ_0 (by fail) (by fail) | exact WM_a ⟨by fail, by fail⟩ (by fail) | exact WQ_s (q1 (by fail)) ⟨by fail, by fail⟩ (mB_in (by fail) (by fail)).symm h23 (by fail) | exact WM_b ⟨by fail, by fail⟩ (by fail) (mB_in (by fail) (by fail)).symm h23 (by fail))) (by first | omega | (intro z; first | fail | exact WQ_0 (by fail) (by fail) | exact WM_a ⟨by fail, by fail⟩ (by fail) | exact WQ_s (q1 (by fail)) ⟨by fail, by fail⟩ (mB_in (by fail) (by fail)).symm h23 (by fail) | exact WM_b ⟨by fail, by fail⟩ (by fail) (mB_in (by fail) (by fail)).symm h23 (by fail))) (by first | (have z_ := unhid u55_; omega) | (intro z; first | fail | exact WQ_0 (by fail) (by fail) | exact WM_a ⟨by fail, by fail⟩ (by fail) | exact WQ_s (q1 (by fail)) ⟨by fail, by fail⟩ (mB_in (by fail) (by fail)).symm h23 (by fail) | exact WM_b ⟨by fail, by fail⟩ (by fail) (mB_in (by fail) (by fail)).symm h23 (by fail))) (by first | omega | (intro z; first | fail | exact WQ_0 (by fail) (by fail) | exact WM_a ⟨by fail, by fail⟩ (by fail) | exact WQ_s (q1 (by fail)) ⟨by fail, by fail⟩ (mB_in (by fail) (by fail)).symm h23 (by fail) | exact WM_b ⟨by fail, by fail⟩ (by fail) (mB_in (by fail) (by fail)).symm h23 (by fail))) (by first | (have z_ := unhid u55_; omega) | (intro z; first | fail | exact WQ_0 (by fail) (by fail) | exact WM_a ⟨by fail, by fail⟩ (by fail) | exact WQ_s (q1 (by fail)) ⟨by fail, by fail⟩ (mB_in (by fail) (by fail)).symm h23 (by fail) | exact WM_b ⟨by fail, by fail⟩ (by fail) (mB_in (by fail) (by fail)).symm h23 (by fail))) (by omega)) ⟨.inl rfl, .inl rfl, .inl rfl, .inl rfl, trivial⟩
    exact GO.le (loop18 _ 0 0 (by first | omega | (intro z; first | fail | exact WQ_0 (by fail) (by fail) | exact WM_a ⟨by fail, by fail⟩ (by fail) | exact WQ_s (q1 (by fail)) ⟨by fail, by fail⟩ (mB_in (by fail) (by fail)).symm hI (by fail) | exact WM_b ⟨by fail, by fail⟩ (by fail) (mB_in (by fail) (by fail)).symm hI (by fail))) (by first | omega | (intro z; first | fail | exact WQ_0 (by fail) (by fail) | exact WM_a ⟨by fail, by fail⟩ (by fail) | exact WQ_s (q1 (by fail)) ⟨by fail, by fail⟩ (mB_in (by fail) (by fail)).symm hI (by fail) | exact WM_b ⟨by fail, by fail⟩ (by fail) (mB_in (by fail) (by fail)).symm hI (by fail))) (by first | omega | (intro z; first | fail | exact WQ_0 (by fail) (by fail) | exact WM_a ⟨by fail, by fail⟩ (by fail) | exact WQ_s (q1 (by fail)) ⟨by fail, by fail⟩ (mB_in (by fail) (by fail)).symm hI (by fail) | exact WM_b ⟨by fail, by fail⟩ (by fail) (mB_in (by fail) (by fail)).symm hI (by fail))) (by first | fail | (intro z; first | fail | exact WQ_0 (by fail) (by fail) | exact WM_a ⟨by omega, by omega⟩ (by (have z0_ := unhid c5; omega)) | exact WQ_s (q1 (by fail)) ⟨by fail, by fail⟩ (mB_in (by fail) (by fail)).symm hI (by fail) | exact WM_b ⟨by fail, by fail⟩ (by fail) (mB_in (by fail) (by fail)).symm hI (by fail))) (by first | omega | (intro z; first | fail | exact WQ_0 (by fail) (by fail) | exact WM_a ⟨by fail, by fail⟩ (by fail) | exact WQ_s (q1 (by fail)) ⟨by fail, by fail⟩ (mB_in (by fail) (by fail)).symm hI (by fail) | exact WM_b ⟨by fail, by fail⟩ (by fail) (mB_in (by fail) (by fail)).symm hI (by fail))) (Nat.lt_succ_self _)) ⟨.inl rfl, .inl rfl, .inl rfl, .inl rfl, trivial⟩
  · skip
    refine go_toq PM156 (k := 5) (pc' := 24) (L' := [some (.inr (.inr (some 79))), some (.inr (.inr (some 1021))), some (.inl 1), some (.inl 0)]) (st' := []) (w' := (SH, dt)) rfl ?_
    have loop37 : ∀ (k_ : Nat) (l24_2 : Int) (l24_3 : Int) (i32 : 0 ≤ l24_2 ∧ l24_2 ≤ 1) (i33 : 0 ≤ l24_3 ∧ l24_3 ≤ 5) (i34 : l24_2 = 1 → WQ (am_Sby.getD 21 []) (dt 79 13 - dt 79 15) (mB (dt 85) (dt 79 12)) (dt 79 15) l24_3) (i35 : l24_2 = 0 → wm (am_Sby.getD 21 []) (mB (dt 85) (dt 79 12)) (dt 79 15).toNat (dt 79 13).toNat = 0) (i36 : l24_2 = 0 ∨ dt 79 13 - dt 79 15 = 5), (6 - l24_3).toNat < k_ → GO (am_XX L xs sio) (d + 4) 156 24 [some (.inr (.inr (some 79))), some (.inr (.inr (some 1021))), some (.inl l24_2), some (.inl l24_3)] [] (SH, dt) (fun r w2 => w2 = (SH, dt) ∧ ((∃ v : Int, r = some (.inl v) ∧ (0 ≤ v ∧ v ≤ 1) ∧ (v = wm (am_Sby.getD 21 []) (mB (dt 85) (dt 79 12)) (dt 79 15).toNat (dt 79 13).toNat)))) := by
      intro k_
      induction k_ with
      | zero => intro l24_2 l24_3 i32 i33 i34 i35 i36 hm; exact absurd hm (Nat.not_lt_zero _)
      | succ k_ ih_loop37 =>
        intro l24_2 l24_3 i32 i33 i34 i35 i36 hm
        replace i34 := hid i34
        replace i35 := hid i35
        replace i36 := hid i36
        have q1 := i34
        have q2 := i35
        refine go_toq PM156 (k := 2) (pc' := 26) (L' := [some (.inr (.inr (some 79))), some (.inr (.inr (some 1021))), some (.inl l24_2), some (.inl l24_3)]) (st' := [.inr (.inr (some 1021)), .inl l24_3]) (w' := (SH, dt)) rfl ?_
        refine go_callq PM156 PM249 (Q' := _) rfl rfl rfl rfl (sp_J0_length_8abf5_1021 L xs sio (d + 2) dt hI   ) ?_
        rintro _ _ ⟨rfl, h38⟩
        refine ⟨rfl, ?_⟩
        rcases h38 with ⟨rfl, h38⟩
        refine go_ifq PM156 (k := 0) (p1 := 67) (p2 := 32) (L' := [some (.inr (.inr (some 79))), some (.inr (.inr (some 1021))), some (.inl l24_2), some (.inl l24_3)]) (st' := []) (w' := (SH, dt)) rfl (c_ge (a := l24_3) (b := 5) (by first | exact bnd i33 (by decide) (by decide) | exact ⟨by fail, by fail⟩) ⟨by decide, by decide⟩) (fun c39 => ?_) (fun c39 => ?_)
        · skip
          refine go_toq PM156 (k := 1) (pc' := 68) (L' := [some (.inr (.inr (some 79))), some (.inr (.inr (some 1021))), some (.inl l24_2), some (.inl l24_3)]) (st' := [.inl l24_2]) (w' := (SH, dt)) rfl ?_
          refine go_retvq PM156 (v := l24_2) rfl (decide_eq_true (show l24_2 = 0 ∨ l24_2 = 1 by omega)) ?_
          exact ⟨rfl, ⟨_, rfl, ⟨by omega, by omega⟩, by rcases (show l24_2 = 0 ∨ l24_2 = 1 by omega) with z | z <;> first | (rw [q2 z]; exact z) | (rw [WM_1 (q1 z) ⟨by omega, by omega⟩ (by omega)]; exact z)⟩⟩
        · skip
          refine go_ifq PM156 (k := 1) (p1 := 67) (p2 := 36) (L' := [some (.inr (.inr (some 79))), some (.inr (.inr (some 1021))), some (.inl l24_2), some (.inl l24_3)]) (st' := []) (w' := (SH, dt)) rfl (z_eq (a := l24_2) (by first | exact bnd i32 (by decide) (by decide) | exact ⟨by fail, by fail⟩)) (fun c40 => ?_) (fun c40 => ?_)
          · skip
            refine go_toq PM156 (k := 1) (pc' := 68) (L' := [some (.inr (.inr (some 79))), some (.inr (.inr (some 1021))), some (.inl l24_2), some (.inl l24_3)]) (st' := [.inl l24_2]) (w' := (SH, dt)) rfl ?_
            refine go_retvq PM156 (v := l24_2) rfl (decide_eq_true (show l24_2 = 0 ∨ l24_2 = 1 by omega)) ?_
            exact ⟨rfl, ⟨_, rfl, ⟨by omega, by omega⟩, by rcases (show l24_2 = 0 ∨ l24_2 = 1 by omega) with z | z <;> first | (rw [q2 z]; exact z) | (rw [WM_1 (q1 z) ⟨by omega, by omega⟩ (by omega)]; exact z)⟩⟩
          · skip
            replace c40 := hid c40
            refine go_toq PM156 (k := 6) (pc' := 46) (L' := [some (.inr (.inr (some 79))), some (.inr (.inr (some 1021))), some (.inl l24_2), some (.inl l24_3)]) (st' := [.inl ((dt 79 15) + l24_3), .inr (.inr (some 85))]) (w' := (SH, dt)) rfl ?_
            have r41 : 0 ≤ dt 85 (((dt 79 15) + l24_3).toNat) ∧ dt 85 (((dt 79 15) + l24_3).toNat) ≤ 255 := InvC_get hI 85 (((dt 79 15) + l24_3).toNat) rfl rfl
            refine go_smpq PM156 (L' := [some (.inr (.inr (some 79))), some (.inr (.inr (some 1021))), some (.inl l24_2), some (.inl l24_3)]) (st' := [.inl (dt 85 (((dt 79 15) + l24_3).toNat))]) (w' := (SH, dt)) rfl rfl (s_iald (n := 500) (f := dt 85) rfl ⟨by omega, by omega⟩) ?_
            refine go_toq PM156 (k := 2) (pc' := 49) (L' := [some (.inr (.inr (some 79))), some (.inr (.inr (some 1021))), some (.inl l24_2), some (.inl l24_3)]) (st' := [.inl l24_3, .inr (.inr (some 1021)), .inl (dt 85 (((dt 79 15) + l24_3).toNat))]) (w' := (SH, dt)) rfl ?_
            refine go_callq PM156 PM250 (Q' := _) rfl rfl rfl rfl (sp_J0_charAt_5068e_21f L xs sio (d + 0) dt hI  l24_3 (by first | exact bnd i33 (by decide) (by decide) | exact bndd i33 c39 (by decide) (by decide) | exact ⟨by fail, by fail⟩) ) ?_
            rintro _ _ ⟨rfl, h42⟩
            refine ⟨rfl, ?_⟩
            rcases h42 with ⟨v_h42, rfl, h42r, h42⟩
            refine go_ifq PM156 (k := 0) (p1 := 59) (p2 := 55) (L' := [some (.inr (.inr (some 79))), some (.inr (.inr (some 1021))), some (.inl l24_2), some (.inl l24_3)]) (st' := []) (w' := (SH, dt)) rfl (c_ne (a := dt 85 (((dt 79 15) + l24_3).toNat)) (b := v_h42) (by first | exact bnd r41 (by decide) (by decide) | exact ⟨by fail, by fail⟩) (by first | exact bnd h42r (by decide) (by decide) | exact ⟨by fail, by fail⟩)) (fun c43 => ?_) (fun c43 => ?_)
            · skip
              replace c43 := hid c43
              refine go_toq PM156 (k := 4) (pc' := 24) (L' := [some (.inr (.inr (some 79))), some (.inr (.inr (some 1021))), some (.inl 0), some (.inl (l24_3 + 1))]) (st' := []) (w' := (SH, dt)) rfl ?_
              have u57_ := hid (And.intro (unhid i35) (And.intro (unhid i36) (And.intro (unhid c40) (unhid c43))))
              exact GO.le (ih_loop37 0 (l24_3 + 1) (by first | omega | (intro z; first | fail | exact WQ_0 (by fail) (by fail) | exact WM_a ⟨by fail, by fail⟩ (by fail) | exact WQ_s (q1 (by fail)) ⟨by fail, by fail⟩ (mB_in (by fail) (by fail)).symm h42 (by fail) | exact WM_b ⟨by fail, by fail⟩ (by fail) (mB_in (by fail) (by fail)).symm h42 (by fail))) (by first | omega | (intro z; first | fail | exact WQ_0 (by fail) (by fail) | exact WM_a ⟨by fail, by fail⟩ (by fail) | exact WQ_s (q1 (by fail)) ⟨by fail, by fail⟩ (mB_in (by fail) (by fail)).symm h42 (by fail) | exact WM_b ⟨by fail, by fail⟩ (by fail) (mB_in (by fail) (by fail)).symm h42 (by fail))) (by first | omega | (intro z; first | fail | exact WQ_0 (by fail) (by fail) | exact WM_a ⟨by fail, by fail⟩ (by fail) | exact WQ_s (q1 (by fail)) ⟨by fail, by fail⟩ (mB_in (by fail) (by fail)).symm h42 (by fail) | exact WM_b ⟨by fail, by fail⟩ (by fail) (mB_in (by fail) (by fail)).symm h42 (by fail))) (by first | fail | (intro z; first | fail | exact WQ_0 (by fail) (by fail) | exact WM_a ⟨by omega, by omega⟩ (by fail) | exact WQ_s (q1 (by (have z_ := unhid u57_; omega))) ⟨by omega, by omega⟩ (mB_in (by omega) (by omega)).symm h42 (by fail) | exact WM_b ⟨by omega, by omega⟩ (by omega) (mB_in (by omega) (by omega)).symm h42 (by (have z_ := unhid u57_; omega)))) (by first | omega | (intro z; first | fail | exact WQ_0 (by fail) (by fail) | exact WM_a ⟨by fail, by fail⟩ (by fail) | exact WQ_s (q1 (by fail)) ⟨by fail, by fail⟩ (mB_in (by fail) (by fail)).symm h42 (by fail) | exact WM_b ⟨by fail, by fail⟩ (by fail) (mB_in (by fail) (by fail)).symm h42 (by fail))) (by omega)) ⟨.inl rfl, .inl rfl, .inl rfl, .inl rfl, trivial⟩
            · skip
              refine go_toq PM156 (k := 5) (pc' := 24) (L' := [some (.inr (.inr (some 79))), some (.inr (.inr (some 1021))), some (.inl 1), some (.inl (l24_3 + 1))]) (st' := []) (w' := (SH, dt)) rfl ?_
              exact GO.le (ih_loop37 1 (l24_3 + 1) (by first | omega | (intro z; first | fail | exact WQ_0 (by fail) (by fail) | exact WM_a ⟨by fail, by fail⟩ (by fail) | exact WQ_s (q1 (by fail)) ⟨by fail, by fail⟩ (mB_in (by fail) (by fail)).symm h42 (by fail) | exact WM_b ⟨by fail, by fail⟩ (by fail) (mB_in (by fail) (by fail)).symm h42 (by fail))) (by first | omega | (intro z; first | fail | exact WQ_0 (by fail) (by fail) | exact WM_a ⟨by fail, by fail⟩ (by fail) | exact WQ_s (q1 (by fail)) ⟨by fail, by fail⟩ (mB_in (by fail) (by fail)).symm h42 (by fail) | exact WM_b ⟨by fail, by fail⟩ (by fail) (mB_in (by fail) (by fail)).symm h42 (by fail))) (by first | fail | (intro z; first | fail | exact WQ_0 (by omega) (by fail) | exact WM_a ⟨by fail, by fail⟩ (by fail) | exact WQ_s (q1 (by (have z0_ := unhid i35; have z1_ := unhid i36; have z2_ := unhid c40; omega))) ⟨by omega, by omega⟩ (mB_in (by omega) (by omega)).symm h42 (by omega) | exact WM_b ⟨by fail, by fail⟩ (by fail) (mB_in (by fail) (by fail)).symm h42 (by fail))) (by first | omega | (intro z; first | fail | exact WQ_0 (by fail) (by fail) | exact WM_a ⟨by fail, by fail⟩ (by fail) | exact WQ_s (q1 (by fail)) ⟨by fail, by fail⟩ (mB_in (by fail) (by fail)).symm h42 (by fail) | exact WM_b ⟨by fail, by fail⟩ (by fail) (mB_in (by fail) (by fail)).symm h42 (by fail))) (by first | omega | (intro z; first | fail | exact WQ_0 (by fail) (by fail) | exact WM_a ⟨by fail, by fail⟩ (by fail) | exact WQ_s (q1 (by fail)) ⟨by fail, by fail⟩ (mB_in (by fail) (by fail)).symm h42 (by fail) | exact WM_b ⟨by fail, by fail⟩ (by fail) (mB_in (by fail) (by fail)).symm h42 (by fail))) (by omega)) ⟨.inl rfl, .inl rfl, .inl rfl, .inl rfl, trivial⟩
    exact GO.le (loop37 _ 1 0 (by first | omega | (intro z; first | fail | exact WQ_0 (by fail) (by fail) | exact WM_a ⟨by fail, by fail⟩ (by fail) | exact WQ_s (q1 (by fail)) ⟨by fail, by fail⟩ (mB_in (by fail) (by fail)).symm hI (by fail) | exact WM_b ⟨by fail, by fail⟩ (by fail) (mB_in (by fail) (by fail)).symm hI (by fail))) (by first | omega | (intro z; first | fail | exact WQ_0 (by fail) (by fail) | exact WM_a ⟨by fail, by fail⟩ (by fail) | exact WQ_s (q1 (by fail)) ⟨by fail, by fail⟩ (mB_in (by fail) (by fail)).symm hI (by fail) | exact WM_b ⟨by fail, by fail⟩ (by fail) (mB_in (by fail) (by fail)).symm hI (by fail))) (by first | fail | (intro z; first | fail | exact WQ_0 (by omega) (by omega) | exact WM_a ⟨by fail, by fail⟩ (by fail) | exact WQ_s (q1 (by fail)) ⟨by fail, by fail⟩ (mB_in (by fail) (by fail)).symm hI (by fail) | exact WM_b ⟨by fail, by fail⟩ (by fail) (mB_in (by fail) (by fail)).symm hI (by fail))) (by first | omega | (intro z; first | fail | exact WQ_0 (by fail) (by fail) | exact WM_a ⟨by fail, by fail⟩ (by fail) | exact WQ_s (q1 (by fail)) ⟨by fail, by fail⟩ (mB_in (by fail) (by fail)).symm hI (by fail) | exact WM_b ⟨by fail, by fail⟩ (by fail) (mB_in (by fail) (by fail)).symm hI (by fail))) (by first | omega | (intro z; first | fail | exact WQ_0 (by fail) (by fail) | exact WM_a ⟨by fail, by fail⟩ (by fail) | exact WQ_s (q1 (by fail)) ⟨by fail, by fail⟩ (mB_in (by fail) (by fail)).symm hI (by fail) | exact WM_b ⟨by fail, by fail⟩ (by fail) (mB_in (by fail) (by fail)).symm hI (by fail))) (Nat.lt_succ_self _)) ⟨.inl rfl, .inl rfl, .inl rfl, .inl rfl, trivial⟩
theorem sp_J1_charAt_3b067_22f (L : Nat) (xs : Nat → Int32) (sio : Option Nat) (d : Nat) (dt : Nat → Nat → Int) (hI : InvC dt)  (p2 : Int) (h_p2 : 0 ≤ p2 ∧ p2 ≤ 3)  : GO (am_XX L xs sio) (d + 2) 256 0 [some (.inr (.inr (some 2022))), some (.inl p2)] [] (SH, dt) (fun r w2 => w2 = (SH, dt) ∧ ((∃ v : Int, r = some (.inl v) ∧ (0 ≤ v ∧ v ≤ 65535) ∧ (v = (am_Sby.getD 22 []).getD p2.toNat 0)))) := by
  refine go_toq PM256 (k := 3) (pc' := 3) (L' := [some (.inr (.inr (some 2022))), some (.inl p2)]) (st' := [.inl 4, .inl p2]) (w' := (SH, dt)) rfl ?_
  refine go_callq PM256 PM255 (Q' := _) rfl rfl rfl rfl (sp_J0_checkIndex_df160 L xs sio (d + 0) dt hI  p2 (by first | exact h_p2 | exact bnd h_p2 (by decide) (by decide) | exact ⟨by fail, by fail⟩) 4 ⟨by decide, by decide⟩ (by first | exact True.intro | with_reducible assumption | rfl | omega | trivial)) ?_
  rintro _ _ ⟨rfl, h1⟩
  refine ⟨rfl, ?_⟩
  rcases h1 with ⟨rfl, h1⟩
  refine go_toq PM256 (k := 2) (pc' := 8) (L' := [some (.inr (.inr (some 2022))), some (.inl p2)]) (st' := [.inl p2, .inr (.inr (some 2022))]) (w' := (SH, dt)) rfl ?_
  have r2 := sby_R 22 (p2).toNat
  refine go_smpq PM256 (L' := [some (.inr (.inr (some 2022))), some (.inl p2)]) (st' := [.inl ((am_Sby.getD 22 []).getD (p2).toNat 0)]) (w' := (SH, dt)) rfl rfl (s_bald (n := 4) (f := fun q => (am_Sby.getD 22 []).getD q 0) rfl (by first | exact bndx h_p2 (by decide) (by decide) | exact ⟨by fail, by fail⟩)) ?_
  have r3 : 0 ≤ am_and ((am_Sby.getD 22 []).getD (p2).toNat 0) 255 ∧ am_and ((am_Sby.getD 22 []).getD (p2).toNat 0) 255 ≤ 255 := and_R255
  have r4 := i2c_R (am_and ((am_Sby.getD 22 []).getD (p2).toNat 0) 255)
  refine go_toq PM256 (k := 3) (pc' := 14) (L' := [some (.inr (.inr (some 2022))), some (.inl p2)]) (st' := [.inl (am_i2c (am_and ((am_Sby.getD 22 []).getD (p2).toNat 0) 255))]) (w' := (SH, dt)) rfl ?_
  refine go_retvq PM256 (v := am_i2c (am_and ((am_Sby.getD 22 []).getD (p2).toNat 0) 255)) rfl (decide_eq_true (show 0 ≤ am_i2c (am_and ((am_Sby.getD 22 []).getD (p2).toNat 0) 255) ∧ am_i2c (am_and ((am_Sby.getD 22 []).getD (p2).toNat 0) 255) < 65536 by omega)) ?_
  exact ⟨rfl, ⟨_, rfl, ⟨by omega, by omega⟩, by exact ic_id ⟨by omega, by omega⟩⟩⟩
theorem sp_J0_charAt_5068e_22f (L : Nat) (xs : Nat → Int32) (sio : Option Nat) (d : Nat) (dt : Nat → Nat → Int) (hI : InvC dt)  (p1 : Int) (h_p1 : 0 ≤ p1 ∧ p1 ≤ 3)  : GO (am_XX L xs sio) (d + 3) 250 0 [some (.inr (.inr (some 1022))), some (.inl p1)] [] (SH, dt) (fun r w2 => w2 = (SH, dt) ∧ ((∃ v : Int, r = some (.inl v) ∧ (0 ≤ v ∧ v ≤ 65535) ∧ (v = (am_Sby.getD 22 []).getD p1.toNat 0)))) := by
  refine go_toq PM250 (k := 1) (pc' := 1) (L' := [some (.inr (.inr (some 1022))), some (.inl p1)]) (st' := [.inr (.inr (some 1022))]) (w' := (SH, dt)) rfl ?_
  refine go_callq PM250 PM254 (Q' := _) rfl rfl rfl rfl (sp_J0_isLatin1_aae02_1022 L xs sio (d + 2) dt hI   ) ?_
  rintro _ _ ⟨rfl, h1⟩
  refine ⟨rfl, ?_⟩
  rcases h1 with ⟨rfl, h1⟩
  refine go_toq PM250 (k := 4) (pc' := 12) (L' := [some (.inr (.inr (some 1022))), some (.inl p1)]) (st' := [.inl p1, .inr (.inr (some 2022))]) (w' := (SH, dt)) rfl ?_
  refine go_callq PM250 PM256 (Q' := _) rfl rfl rfl rfl (sp_J1_charAt_3b067_22f L xs sio (d + 0) dt hI  p1 (by first | exact h_p1 | exact bnd h_p1 (by decide) (by decide) | exact ⟨by fail, by fail⟩) ) ?_
  rintro _ _ ⟨rfl, h2⟩
  refine ⟨rfl, ?_⟩
  rcases h2 with ⟨v_h2, rfl, h2r, h2⟩
  refine go_retvq PM250 (v := v_h2) rfl (decide_eq_true (show 0 ≤ v_h2 ∧ v_h2 < 65536 by omega)) ?_
  exact ⟨rfl, ⟨_, rfl, ⟨by omega, by omega⟩, by first | exact True.intro | with_reducible assumption | rfl | fail | trivial⟩⟩
set_option maxRecDepth 20000 in
theorem sp_X6_is_22f (L : Nat) (xs : Nat → Int32) (sio : Option Nat) (d : Nat) (dt : Nat → Nat → Int) (hI : InvC dt)   (h_p0 : dt 79 13 ≤ 500) (h_p1 : dt 79 15 ≤ dt 79 13) (h_p2 : dt 79 13 ≤ dt 79 12) : GO (am_XX L xs sio) (d + 4) 156 0 [some (.inr (.inr (some 79))), some (.inr (.inr (some 1022))), none, none] [] (SH, dt) (fun r w2 => w2 = (SH, dt) ∧ ((∃ v : Int, r = some (.inl v) ∧ (0 ≤ v ∧ v ≤ 1) ∧ (v = wm (am_Sby.getD 22 []) (mB (dt 85) (dt 79 12)) (dt 79 15).toNat (dt 79 13).toNat)))) := by
  have r1 : 0 ≤ dt 79 13 ∧ dt 79 13 ≤ 501 := InvC_get hI 79 13 rfl rfl
  have r2 : 0 ≤ dt 79 15 ∧ dt 79 15 ≤ 500 := InvC_get hI 79 15 rfl rfl
  have r3 : 0 ≤ dt 79 12 ∧ dt 79 12 ≤ 500 := InvC_get hI 79 12 rfl rfl
  have hlen : (((am_Sby.getD 22 []).length : Nat) : Int) = 4 := rfl
  refine go_toq PM156 (k := 6) (pc' := 10) (L' := [some (.inr (.inr (some 79))), some (.inr (.inr (some 1022))), none, none]) (st' := [.inr (.inr (some 1022)), .inl ((dt 79 13) - (dt 79 15))]) (w' := (SH, dt)) rfl ?_
  refine go_callq PM156 PM249 (Q' := _) rfl rfl rfl rfl (sp_J0_length_8abf5_1022 L xs sio (d + 2) dt hI   ) ?_
  rintro _ _ ⟨rfl, h4⟩
  refine ⟨rfl, ?_⟩
  rcases h4 with ⟨rfl, h4⟩
  refine go_ifq PM156 (k := 0) (p1 := 20) (p2 := 16) (L' := [some (.inr (.inr (some 79))), some (.inr (.inr (some 1022))), none, none]) (st' := []) (w' := (SH, dt)) rfl (c_ne (a := (dt 79 13) - (dt 79 15)) (b := 4) ⟨by omega, by omega⟩ ⟨by decide, by decide⟩) (fun c5 => ?_) (fun c5 => ?_)
  · skip
    replace c5 := hid c5
    refine go_toq PM156 (k := 4) (pc' := 24) (L' := [some (.inr (.inr (some 79))), some (.inr (.inr (some 1022))), some (.inl 0), some (.inl 0)]) (st' := []) (w' := (SH, dt)) rfl ?_
    have loop18 : ∀ (k_ : Nat) (l24_2 : Int) (l24_3 : Int) (i13 : 0 ≤ l24_2 ∧ l24_2 ≤ 1) (i14 : 0 ≤ l24_3 ∧ l24_3 ≤ 4) (i15 : l24_2 = 1 → WQ (am_Sby.getD 22 []) (dt 79 13 - dt 79 15) (mB (dt 85) (dt 79 12)) (dt 79 15) l24_3) (i16 : l24_2 = 0 → wm (am_Sby.getD 22 []) (mB (dt 85) (dt 79 12)) (dt 79 15).toNat (dt 79 13).toNat = 0) (i17 : l24_2 = 0 ∨ dt 79 13 - dt 79 15 = 4), (5 - l24_3).toNat < k_ → GO (am_XX L xs sio) (d + 4) 156 24 [some (.inr (.inr (some 79))), some (.inr (.inr (some 1022))), some (.inl l24_2), some (.inl l24_3)] [] (SH, dt) (fun r w2 => w2 = (SH, dt) ∧ ((∃ v : Int, r = some (.inl v) ∧ (0 ≤ v ∧ v ≤ 1) ∧ (v = wm (am_Sby.getD 22 []) (mB (dt 85) (dt 79 12)) (dt 79 15).toNat (dt 79 13).toNat)))) := by
      intro k_
      induction k_ with
      | zero => intro l24_2 l24_3 i13 i14 i15 i16 i17 hm; exact absurd hm (Nat.not_lt_zero _)
      | succ k_ ih_loop18 =>
        intro l24_2 l24_3 i13 i14 i15 i16 i17 hm
        replace i15 := hid i15
        replace i16 := hid i16
        replace i17 := hid i17
        have q1 := i15
        have q2 := i16
        refine go_toq PM156 (k := 2) (pc' := 26) (L' := [some (.inr (.inr (some 79))), some (.inr (.inr (some 1022))), some (.inl l24_2), some (.inl l24_3)]) (st' := [.inr (.inr (some 1022)), .inl l24_3]) (w' := (SH, dt)) rfl ?_
        refine go_callq PM156 PM249 (Q' := _) rfl rfl rfl rfl (sp_J0_length_8abf5_1022 L xs sio (d + 2) dt hI   ) ?_
        rintro _ _ ⟨rfl, h19⟩
        refine ⟨rfl, ?_⟩
        rcases h19 with ⟨rfl, h19⟩
        refine go_ifq PM156 (k := 0) (p1 := 67) (p2 := 32) (L' := [some (.inr (.inr (some 79))), some (.inr (.inr (some 1022))), some (.inl l24_2), some (.inl l24_3)]) (st' := []) (w' := (SH, dt)) rfl (c_ge (a := l24_3) (b := 4) (by first | exact bnd i14 (by decide) (by decide) | exact ⟨by fail, by fail⟩) ⟨by decide, by decide⟩) (fun c20 => ?_) (fun c20 => ?_)
        · skip
          refine go_toq PM156 (k := 1) (pc' := 68) (L' := [some (.inr (.inr (some 79))), some (.inr (.inr (some 1022))), some (.inl l24_2), some (.inl l24_3)]) (st' := [.inl l24_2]) (w' := (SH, dt)) rfl ?_
          refine go_retvq PM156 (v := l24_2) rfl (decide_eq_true (show l24_2 = 0 ∨ l24_2 = 1 by omega)) ?_
          exact ⟨rfl, ⟨_, rfl, ⟨by omega, by omega⟩, by rcases (show l24_2 = 0 ∨ l24_2 = 1 by omega) with z | z <;> first | (rw [q2 z]; exact z) | (rw [WM_1 (q1 z) ⟨by omega, by omega⟩ (by omega)]; exact z)⟩⟩
        · skip
          refine go_ifq PM156 (k := 1) (p1 := 67) (p2 := 36) (L' := [some (.inr (.inr (some 79))), some (.inr (.inr (some 1022))), some (.inl l24_2), some (.inl l24_3)]) (st' := []) (w' := (SH, dt)) rfl (z_eq (a := l24_2) (by first | exact bnd i13 (by decide) (by decide) | exact ⟨by fail, by fail⟩)) (fun c21 => ?_) (fun c21 => ?_)
          · skip
            refine go_toq PM156 (k := 1) (pc' := 68) (L' := [some (.inr (.inr (some 79))), some (.inr (.inr (some 1022))), some (.inl l24_2), some (.inl l24_3)]) (st' := [.inl l24_2]) (w' := (SH, dt)) rfl ?_
            refine go_retvq PM156 (v := l24_2) rfl (decide_eq_true (show l24_2 = 0 ∨ l24_2 = 1 by omega)) ?_
            exact ⟨rfl, ⟨_, rfl, ⟨by omega, by omega⟩, by rcases (show l24_2 = 0 ∨ l24_2 = 1 by omega) with z | z <;> first | (rw [q2 z]; exact z) | (rw [WM_1 (q1 z) ⟨by omega, by omega⟩ (by omega)]; exact z)⟩⟩
          · skip
            replace c21 := hid c21
            refine go_toq PM156 (k := 6) (pc' := 46) (L' := [some (.inr (.inr (some 79))), some (.inr (.inr (some 1022))), some (.inl l24_2), some (.inl l24_3)]) (st' := [.inl ((dt 79 15) + l24_3), .inr (.inr (some 85))]) (w' := (SH, dt)) rfl ?_
            have r22 : 0 ≤ dt 85 (((dt 79 15) + l24_3).toNat) ∧ dt 85 (((dt 79 15) + l24_3).toNat) ≤ 255 := InvC_get hI 85 (((dt 79 15) + l24_3).toNat) rfl rfl
            have u58_ := hid (And.intro (unhid c5) (And.intro (unhid i16) (And.intro (unhid i17) (unhid c21))))
            refine go_smpq PM156 (L' := [some (.inr (.inr (some 79))), some (.inr (.inr (some 1022))), some (.inl l24_2), some (.inl l24_3)]) (st' := [.inl (dt 85 (((dt 79 15) + l24_3).toNat))]) (w' := (SH, dt)) rfl rfl (s_iald (n := 500) (f := dt 85) rfl ⟨by omega, by (have z_ := unhid u58_; omega)⟩) ?_
            refine go_toq PM156 (k := 2) (pc' := 49) (L' := [some (.inr (.inr (some 79))), some (.inr (.inr (some 1022))), some (.inl l24_2), some (.inl l24_3)]) (st' := [.inl l24_3, .inr (.inr (some 1022)), .inl (dt 85 (((dt 79 15) + l24_3).toNat))]) (w' := (SH, dt)) rfl ?_
            refine go_callq PM156 PM250 (Q' := _) rfl rfl rfl rfl (sp_J0_charAt_5068e_22f L xs sio (d + 0) dt hI  l24_3 (by first | exact bnd i14 (by decide) (by decide) | exact bndd i14 c20 (by decide) (by decide) | exact ⟨by fail, by fail⟩) ) ?_
            rintro _ _ ⟨rfl, h23⟩
            refine ⟨rfl, ?_⟩
            rcases h23 with ⟨v_h23, rfl, h23r, h23⟩
            refine go_ifq PM156 (k := 0) (p1 := 59) (p2 := 55) (L' := [some (.inr (.inr (some 79))), some (.inr (.inr (some 1022))), some (.inl l24_2), some (.inl l24_3)]) (st' := []) (w' := (SH, dt)) rfl (c_ne (a := dt 85 (((dt 79 15) + l24_3).toNat)) (b := v_h23) (by first | exact bnd r22 (by decide) (by decide) | exact ⟨by fail, by fail⟩) (by first | exact bnd h23r (by decide) (by decide) | exact ⟨by fail, by fail⟩)) (fun c24 => ?_) (fun c24 => ?_)
            · skip
              replace c24 := hid c24
              refine go_toq PM156 (k := 4) (pc' := 24) (L' := [some (.inr (.inr (some 79))), some (.inr (.inr (some 1022))), some (.inl 0), some (.inl (l24_3 + 1))]) (st' := []) (w' := (SH, dt)) rfl ?_
              have u59_ := hid (And.intro (unhid c5) (And.intro (unhid i16) (And.intro (unhid i17) (And.intro (unhid c21) (unhid c24)))))
              exact GO.le (ih_loop18 0 (l24_3 + 1) (by first | omega | (intro z; first | fail | exact WQ_0 (by fail) (by fail) | exact WM_a ⟨by fail, by fail⟩ (by fail) | exact WQ_s (q1 (by fail)) ⟨by fail, by fail⟩ (mB_in (by fail) (by fail)).symm h23 (by fail) | exact WM_b ⟨by fail, by fail⟩ (by fail) (mB_in (by fail) (by fail)).symm h23 (by fail))) (by first | omega | (intro z; first | fail | exact WQ_0 (by fail) (by fail) | exact WM_a ⟨by fail, by fail⟩ (by fail) | exact WQ_s (q1 (by fail)) ⟨by fail, by fail⟩ (mB_in (by fail) (by fail)).symm h23 (by fail) | exact WM_b ⟨by fail, by fail⟩ (by fail) (mB_in (by fail) (by fail)).symm h23 (by fail))) (by first | omega | (intro z; first | fail | exact WQ_0 (by fail) (by fail) | exact WM_a ⟨by fail, by fail⟩ (by fail) | exact WQ_s (q1 (by fail)) ⟨by fail, by fail⟩ (mB_in (by fail) (by fail)).symm h23 (by fail) | exact WM_b ⟨by fail, by fail⟩ (by fail) (mB_in (by fail) (by fail)).symm h23 (by fail))) (by first | (have z_ := unhid u59_; omega) | (intro z; first | fail | exact WQ_0 (by fail) (by fail) | exact WM_a ⟨by fail, by fail⟩ (by fail) | exact WQ_s (q1 (by fail)) ⟨by fail, by fail⟩ (mB_in (by fail) (by fail)).symm h23 (by fail) | exact WM_b ⟨by fail, by fail⟩ (by fail) (mB_in (by fail) (by fail)).symm h23 (by fail))) (by first | omega | (intro z; first | fail | exact WQ_0 (by fail) (by fail) | exact WM_a ⟨by fail, by fail⟩ (by fail) | exact WQ_s (q1 (by fail)) ⟨by fail, by fail⟩ (mB_in (by fail) (by fail)).symm h23 (by fail) | exact WM_b ⟨by fail, by fail⟩ (by fail) (mB_in (by fail) (by fail)).symm h23 (by fail))) (by omega)) ⟨.inl rfl, .inl rfl, .inl rfl, .inl rfl, trivial⟩
            · skip
              refine go_toq PM156 (k := 5) (pc' := 24) (L' := [some (.inr (.inr (some 79))), some (.inr (.inr (some 1022))), some (.inl 1), some (.inl (l24_3 + 1))]) (st' := []) (w' := (SH, dt)) rfl ?_
              exact GO.le (ih_loop18 1 (l24_3 + 1) (by first | omega | (intro z; first | fail | exact WQ_0 (by fail) (by fail) | exact WM_a ⟨by fail, by fail⟩ (by fail) | exact WQ_s (q1 (by fail)) ⟨by fail, by fail⟩ (mB_in (by fail) (by fail)).symm h23 (by fail) | exact WM_b ⟨by fail, by fail⟩ (by fail) (mB_in (by fail) (by fail)).symm h23 (by fail))) (by first | omega | (intro z; first | fail | exact WQ_0 (by fail) (by fail) | exact WM_a ⟨by fail, by fail⟩ (by fail) | exact WQ_s (q1 (by fail)) ⟨by fail, by fail⟩ (mB_in (by fail) (by fail)).symm h23 (by fail) | exact WM_b ⟨by fail, by fail⟩ (by fail) (mB_in (by fail) (by fail)).symm h23 (by fail))) (by first | (have z_ := unhid u58_; omega) | (intro z; first | fail | exact WQ_0 (by fail) (by fail) | exact WM_a ⟨by fail, by fail⟩ (by fail) | exact WQ_s (q1 (by fail)) ⟨by fail, by fail⟩ (mB_in (by fail) (by fail)).symm h23 (by fail) | exact WM_b ⟨by fail, by fail⟩ (by fail) (mB_in (by fail) (by fail)).symm h23 (by fail))) (by first | omega | (intro z; first | fail | exact WQ_0 (by fail) (by fail) | exact WM_a ⟨by fail, by fail⟩ (by fail) | exact WQ_s (q1 (by fail)) ⟨by fail, by fail⟩ (mB_in (by fail) (by fail)).symm h23 (by fail) | exact WM_b ⟨by fail, by fail⟩ (by fail) (mB_in (by fail) (by fail)).symm h23 (by fail))) (by first | (have z_ := unhid u58_; omega) | (intro z; first | fail | exact WQ_0 (by fail) (by fail) | exact WM_a ⟨by fail, by fail⟩ (by fail) | exact WQ_s (q1 (by fail)) ⟨by fail, by fail⟩ (mB_in (by fail) (by fail)).symm h23 (by fail) | exact WM_b ⟨by fail, by fail⟩ (by fail) (mB_in (by fail) (by fail)).symm h23 (by fail))) (by omega)) ⟨.inl rfl, .inl rfl, .inl rfl, .inl rfl, trivial⟩
    exact GO.le (loop18 _ 0 0 (by first | omega | (intro z; first | fail | exact WQ_0 (by fail) (by fail) | exact WM_a ⟨by fail, by fail⟩ (by fail) | exact WQ_s (q1 (by fail)) ⟨by fail, by fail⟩ (mB_in (by fail) (by fail)).symm hI (by fail) | exact WM_b ⟨by fail, by fail⟩ (by fail) (mB_in (by fail) (by fail)).symm hI (by fail))) (by first | omega | (intro z; first | fail | exact WQ_0 (by fail) (by fail) | exact WM_a ⟨by fail, by fail⟩ (by fail) | exact WQ_s (q1 (by fail)) ⟨by fail, by fail⟩ (mB_in (by fail) (by fail)).symm hI (by fail) | exact WM_b ⟨by fail, by fail⟩ (by fail) (mB_in (by fail) (by fail)).symm hI (by fail))) (by first | omega | (intro z; first | fail | exact WQ_0 (by fail) (by fail) | exact WM_a ⟨by fail, by fail⟩ (by fail) | exact WQ_s (q1 (by fail)) ⟨by fail, by fail⟩ (mB_in (by fail) (by fail)).symm hI (by fail) | exact WM_b ⟨by fail, by fail⟩ (by fail) (mB_in (by fail) (by fail)).symm hI (by fail))) (by first | fail | (intro z; first | fail | exact WQ_0 (by fail) (by fail) | exact WM_a ⟨by omega, by omega⟩ (by (have z0_ := unhid c5; omega)) | exact WQ_s (q1 (by fail)) ⟨by fail, by fail⟩ (mB_in (by fail) (by fail)).symm hI (by fail) | exact WM_b ⟨by fail, by fail⟩ (by fail) (mB_in (by fail) (by fail)).symm hI (by fail))) (by first | omega | (intro z; first | fail | exact WQ_0 (by fail) (by fail) | exact WM_a ⟨by fail, by fail⟩ (by fail) | exact WQ_s (q1 (by fail)) ⟨by fail, by fail⟩ (mB_in (by fail) (by fail)).symm hI (by fail) | exact WM_b ⟨by fail, by fail⟩ (by fail) (mB_in (by fail) (by fail)).symm hI (by fail))) (Nat.lt_succ_self _)) ⟨.inl rfl, .inl rfl, .inl rfl, .inl rfl, trivial⟩
  · skip
    refine go_toq PM156 (k := 5) (pc' := 24) (L' := [some (.inr (.inr (some 79))), some (.inr (.inr (some 1022))), some (.inl 1), some (.inl 0)]) (st' := []) (w' := (SH, dt)) rfl ?_
    have loop37 : ∀ (k_ : Nat) (l24_2 : Int) (l24_3 : Int) (i32 : 0 ≤ l24_2 ∧ l24_2 ≤ 1) (i33 : 0 ≤ l24_3 ∧ l24_3 ≤ 4) (i34 : l24_2 = 1 → WQ (am_Sby.getD 22 []) (dt 79 13 - dt 79 15) (mB (dt 85) (dt 79 12)) (dt 79 15) l24_3) (i35 : l24_2 = 0 → wm (am_Sby.getD 22 []) (mB (dt 85) (dt 79 12)) (dt 79 15).toNat (dt 79 13).toNat = 0) (i36 : l24_2 = 0 ∨ dt 79 13 - dt 79 15 = 4), (5 - l24_3).toNat < k_ → GO (am_XX L xs sio) (d + 4) 156 24 [some (.inr (.inr (some 79))), some (.inr (.inr (some 1022))), some (.inl l24_2), some (.inl l24_3)] [] (SH, dt) (fun r w2 => w2 = (SH, dt) ∧ ((∃ v : Int, r = some (.inl v) ∧ (0 ≤ v ∧ v ≤ 1) ∧ (v = wm (am_Sby.getD 22 []) (mB (dt 85) (dt 79 12)) (dt 79 15).toNat (dt 79 13).toNat)))) := by
      intro k_
      induction k_ with
      | zero => intro l24_2 l24_3 i32 i33 i34 i35 i36 hm; exact absurd hm (Nat.not_lt_zero _)
      | succ k_ ih_loop37 =>
        intro l24_2 l24_3 i32 i33 i34 i35 i36 hm
        replace i34 := hid i34
        replace i35 := hid i35
        replace i36 := hid i36
        have q1 := i34
        have q2 := i35
        refine go_toq PM156 (k := 2) (pc' := 26) (L' := [some (.inr (.inr (some 79))), some (.inr (.inr (some 1022))), some (.inl l24_2), some (.inl l24_3)]) (st' := [.inr (.inr (some 1022)), .inl l24_3]) (w' := (SH, dt)) rfl ?_
        refine go_callq PM156 PM249 (Q' := _) rfl rfl rfl rfl (sp_J0_length_8abf5_1022 L xs sio (d + 2) dt hI   ) ?_
        rintro _ _ ⟨rfl, h38⟩
        refine ⟨rfl, ?_⟩
        rcases h38 with ⟨rfl, h38⟩
        refine go_ifq PM156 (k := 0) (p1 := 67) (p2 := 32) (L' := [some (.inr (.inr (some 79))), some (.inr (.inr (some 1022))), some (.inl l24_2), some (.inl l24_3)]) (st' := []) (w' := (SH, dt)) rfl (c_ge (a := l24_3) (b := 4) (by first | exact bnd i33 (by decide) (by decide) | exact ⟨by fail, by fail⟩) ⟨by decide, by decide⟩) (fun c39 => ?_) (fun c39 => ?_)
        · skip
          refine go_toq PM156 (k := 1) (pc' := 68) (L' := [some (.inr (.inr (some 79))), some (.inr (.inr (some 1022))), some (.inl l24_2), some (.inl l24_3)]) (st' := [.inl l24_2]) (w' := (SH, dt)) rfl ?_
          refine go_retvq PM156 (v := l24_2) rfl (decide_eq_true (show l24_2 = 0 ∨ l24_2 = 1 by omega)) ?_
          exact ⟨rfl, ⟨_, rfl, ⟨by omega, by omega⟩, by rcases (show l24_2 = 0 ∨ l24_2 = 1 by omega) with z | z <;> first | (rw [q2 z]; exact z) | (rw [WM_1 (q1 z) ⟨by omega, by omega⟩ (by omega)]; exact z)⟩⟩
        · skip
          refine go_ifq PM156 (k := 1) (p1 := 67) (p2 := 36) (L' := [some (.inr (.inr (some 79))), some (.inr (.inr (some 1022))), some (.inl l24_2), some (.inl l24_3)]) (st' := []) (w' := (SH, dt)) rfl (z_eq (a := l24_2) (by first | exact bnd i32 (by decide) (by decide) | exact ⟨by fail, by fail⟩)) (fun c40 => ?_) (fun c40 => ?_)
          · skip
            refine go_toq PM156 (k := 1) (pc' := 68) (L' := [some (.inr (.inr (some 79))), some (.inr (.inr (some 1022))), some (.inl l24_2), some (.inl l24_3)]) (st' := [.inl l24_2]) (w' := (SH, dt)) rfl ?_
            refine go_retvq PM156 (v := l24_2) rfl (decide_eq_true (show l24_2 = 0 ∨ l24_2 = 1 by omega)) ?_
            exact ⟨rfl, ⟨_, rfl, ⟨by omega, by omega⟩, by rcases (show l24_2 = 0 ∨ l24_2 = 1 by omega) with z | z <;> first | (rw [q2 z]; exact z) | (rw [WM_1 (q1 z) ⟨by omega, by omega⟩ (by omega)]; exact z)⟩⟩
          · skip
            replace c40 := hid c40
            refine go_toq PM156 (k := 6) (pc' := 46) (L' := [some (.inr (.inr (some 79))), some (.inr (.inr (some 1022))), some (.inl l24_2), some (.inl l24_3)]) (st' := [.inl ((dt 79 15) + l24_3), .inr (.inr (some 85))]) (w' := (SH, dt)) rfl ?_
            have r41 : 0 ≤ dt 85 (((dt 79 15) + l24_3).toNat) ∧ dt 85 (((dt 79 15) + l24_3).toNat) ≤ 255 := InvC_get hI 85 (((dt 79 15) + l24_3).toNat) rfl rfl
            refine go_smpq PM156 (L' := [some (.inr (.inr (some 79))), some (.inr (.inr (some 1022))), some (.inl l24_2), some (.inl l24_3)]) (st' := [.inl (dt 85 (((dt 79 15) + l24_3).toNat))]) (w' := (SH, dt)) rfl rfl (s_iald (n := 500) (f := dt 85) rfl ⟨by omega, by omega⟩) ?_
            refine go_toq PM156 (k := 2) (pc' := 49) (L' := [some (.inr (.inr (some 79))), some (.inr (.inr (some 1022))), some (.inl l24_2), some (.inl l24_3)]) (st' := [.inl l24_3, .inr (.inr (some 1022)), .inl (dt 85 (((dt 79 15) + l24_3).toNat))]) (w' := (SH, dt)) rfl ?_
            refine go_callq PM156 PM250 (Q' := _) rfl rfl rfl rfl (sp_J0_charAt_5068e_22f L xs sio (d + 0) dt hI  l24_3 (by first | exact bnd i33 (by decide) (by decide) | exact bndd i33 c39 (by decide) (by decide) | exact ⟨by fail, by fail⟩) ) ?_
            rintro _ _ ⟨rfl, h42⟩
            refine ⟨rfl, ?_⟩
            rcases h42 with ⟨v_h42, rfl, h42r, h42⟩
            refine go_ifq PM156 (k := 0) (p1 := 59) (p2 := 55) (L' := [some (.inr (.inr (some 79))), some (.inr (.inr (some 1022))), some (.inl l24_2), some (.inl l24_3)]) (st' := []) (w' := (SH, dt)) rfl (c_ne (a := dt 85 (((dt 79 15) + l24_3).toNat)) (b := v_h42) (by first | exact bnd r41 (by decide) (by decide) | exact ⟨by fail, by fail⟩) (by first | exact bnd h42r (by decide) (by decide) | exact ⟨by fail, by fail⟩)) (fun c43 => ?_) (fun c43 => ?_)
            · skip
              replace c43 := hid c43
              refine go_toq PM156 (k := 4) (pc' := 24) (L' := [some (.inr (.inr (some 79))), some (.inr (.inr (some 1022))), some (.inl 0), some (.inl (l24_3 + 1))]) (st' := []) (w' := (SH, dt)) rfl ?_
              have u60_ := hid (And.intro (unhid i35) (And.intro (unhid i36) (And.intro (unhid c40) (unhid c43))))
              exact GO.le (ih_loop37 0 (l24_3 + 1) (by first | omega | (intro z; first | fail | exact WQ_0 (by fail) (by fail) | exact WM_a ⟨by fail, by fail⟩ (by fail) | exact WQ_s (q1 (by fail)) ⟨by fail, by fail⟩ (mB_in (by fail) (by fail)).symm h42 (by fail) | exact WM_b ⟨by fail, by fail⟩ (by fail) (mB_in (by fail) (by fail)).symm h42 (by fail))) (by first | omega | (intro z; first | fail | exact WQ_0 (by fail) (by fail) | exact WM_a ⟨by fail, by fail⟩ (by fail) | exact WQ_s (q1 (by fail)) ⟨by fail, by fail⟩ (mB_in (by fail) (by fail)).symm h42 (by fail) | exact WM_b ⟨by fail, by fail⟩ (by fail) (mB_in (by fail) (by fail)).symm h42 (by fail))) (by first | omega | (intro z; first | fail | exact WQ_0 (by fail) (by fail) | exact WM_a ⟨by fail, by fail⟩ (by fail) | exact WQ_s (q1 (by fail)) ⟨by fail, by fail⟩ (mB_in (by fail) (by fail)).symm h42 (by fail) | exact WM_b ⟨by fail, by fail⟩ (by fail) (mB_in (by fail) (by fail)).symm h42 (by fail))) (by first | fail | (intro z; first | fail | exact WQ_0 (by fail) (by fail) | exact WM_a ⟨by omega, by omega⟩ (by fail) | exact WQ_s (q1 (by (have z_ := unhid u60_; omega))) ⟨by omega, by omega⟩ (mB_in (by omega) (by omega)).symm h42 (by fail) | exact WM_b ⟨by omega, by omega⟩ (by omega) (mB_in (by omega) (by omega)).symm h42 (by (have z_ := unhid u60_; omega)))) (by first | omega | (intro z; first | fail | exact WQ_0 (by fail) (by fail) | exact WM_a ⟨by fail, by fail⟩ (by fail) | exact WQ_s (q1 (by fail)) ⟨by fail, by fail⟩ (mB_in (by fail) (by fail)).symm h42 (by fail) | exact WM_b ⟨by fail, by fail⟩ (by fail) (mB_in (by fail) (by fail)).symm h42 (by fail))) (by omega)) ⟨.inl rfl, .inl rfl, .inl rfl, .inl rfl, trivial⟩
            · skip
              refine go_toq PM156 (k := 5) (pc' := 24) (L' := [some (.inr (.inr (some 79))), some (.inr (.inr (some 1022))), some (.inl 1), some (.inl (l24_3 + 1))]) (st' := []) (w' := (SH, dt)) rfl ?_
              exact GO.le (ih_loop37 1 (l24_3 + 1) (by first | omega | (intro z; first | fail | exact WQ_0 (by fail) (by fail) | exact WM_a ⟨by fail, by fail⟩ (by fail) | exact WQ_s (q1 (by fail)) ⟨by fail, by fail⟩ (mB_in (by fail) (by fail)).symm h42 (by fail) | exact WM_b ⟨by fail, by fail⟩ (by fail) (mB_in (by fail) (by fail)).symm h42 (by fail))) (by first | omega | (intro z; first | fail | exact WQ_0 (by fail) (by fail) | exact WM_a ⟨by fail, by fail⟩ (by fail) | exact WQ_s (q1 (by fail)) ⟨by fail, by fail⟩ (mB_in (by fail) (by fail)).symm h42 (by fail) | exact WM_b ⟨by fail, by fail⟩ (by fail) (mB_in (by fail) (by fail)).symm h42 (by fail))) (by first | fail | (intro z; first | fail | exact WQ_0 (by omega) (by fail) | exact WM_a ⟨by fail, by fail⟩ (by fail) | exact WQ_s (q1 (by (have z0_ := unhid i35; have z1_ := unhid i36; have z2_ := unhid c40; omega))) ⟨by omega, by omega⟩ (mB_in (by omega) (by omega)).symm h42 (by omega) | exact WM_b ⟨by fail, by fail⟩ (by fail) (mB_in (by fail) (by fail)).symm h42 (by fail))) (by first | omega | (intro z; first | fail | exact WQ_0 (by fail) (by fail) | exact WM_a ⟨by fail, by fail⟩ (by fail) | exact WQ_s (q1 (by fail)) ⟨by fail, by fail⟩ (mB_in (by fail) (by fail)).symm h42 (by fail) | exact WM_b ⟨by fail, by fail⟩ (by fail) (mB_in (by fail) (by fail)).symm h42 (by fail))) (by first | omega | (intro z; first | fail | exact WQ_0 (by fail) (by fail) | exact WM_a ⟨by fail, by fail⟩ (by fail) | exact WQ_s (q1 (by fail)) ⟨by fail, by fail⟩ (mB_in (by fail) (by fail)).symm h42 (by fail) | exact WM_b ⟨by fail, by fail⟩ (by fail) (mB_in (by fail) (by fail)).symm h42 (by fail))) (by omega)) ⟨.inl rfl, .inl rfl, .inl rfl, .inl rfl, trivial⟩
    exact GO.le (loop37 _ 1 0 (by first | omega | (intro z; first | fail | exact WQ_0 (by fail) (by fail) | exact WM_a ⟨by fail, by fail⟩ (by fail) | exact WQ_s (q1 (by fail)) ⟨by fail, by fail⟩ (mB_in (by fail) (by fail)).symm hI (by fail) | exact WM_b ⟨by fail, by fail⟩ (by fail) (mB_in (by fail) (by fail)).symm hI (by fail))) (by first | omega | (intro z; first | fail | exact WQ_0 (by fail) (by fail) | exact WM_a ⟨by fail, by fail⟩ (by fail) | exact WQ_s (q1 (by fail)) ⟨by fail, by fail⟩ (mB_in (by fail) (by fail)).symm hI (by fail) | exact WM_b ⟨by fail, by fail⟩ (by fail) (mB_in (by fail) (by fail)).symm hI (by fail))) (by first | fail | (intro z; first | fail | exact WQ_0 (by omega) (by omega) | exact WM_a ⟨by fail, by fail⟩ (by fail) | exact WQ_s (q1 (by fail)) ⟨by fail, by fail⟩ (mB_in (by fail) (by fail)).symm hI (by fail) | exact WM_b ⟨by fail, by fail⟩ (by fail) (mB_in (by fail) (by fail)).symm hI (by fail))) (by first | omega | (intro z; first | fail | exact WQ_0 (by fail) (by fail) | exact WM_a ⟨by fail, by fail⟩ (by fail) | exact WQ_s (q1 (by fail)) ⟨by fail, by fail⟩ (mB_in (by fail) (by fail)).symm hI (by fail) | exact WM_b ⟨by fail, by fail⟩ (by fail) (mB_in (by fail) (by fail)).symm hI (by fail))) (by first | omega | (intro z; first | fail | exact WQ_0 (by fail) (by fail) | exact WM_a ⟨by fail, by fail⟩ (by fail) | exact WQ_s (q1 (by fail)) ⟨by fail, by fail⟩ (mB_in (by fail) (by fail)).symm hI (by fail) | exact WM_b ⟨by fail, by fail⟩ (by fail) (mB_in (by fail) (by fail)).symm hI (by fail))) (Nat.lt_succ_self _)) ⟨.inl rfl, .inl rfl, .inl rfl, .inl rfl, trivial⟩
theorem sp_J1_charAt_3b067_23f (L : Nat) (xs : Nat → Int32) (sio : Option Nat) (d : Nat) (dt : Nat → Nat → Int) (hI : InvC dt)  (p2 : Int) (h_p2 : 0 ≤ p2 ∧ p2 ≤ 6)  : GO (am_XX L xs sio) (d + 2) 256 0 [some (.inr (.inr (some 2023))), some (.inl p2)] [] (SH, dt) (fun r w2 => w2 = (SH, dt) ∧ ((∃ v : Int, r = some (.inl v) ∧ (0 ≤ v ∧ v ≤ 65535) ∧ (v = (am_Sby.getD 23 []).getD p2.toNat 0)))) := by
  refine go_toq PM256 (k := 3) (pc' := 3) (L' := [some (.inr (.inr (some 2023))), some (.inl p2)]) (st' := [.inl 7, .inl p2]) (w' := (SH, dt)) rfl ?_
  refine go_callq PM256 PM255 (Q' := _) rfl rfl rfl rfl (sp_J0_checkIndex_df160 L xs sio (d + 0) dt hI  p2 (by first | exact h_p2 | exact bnd h_p2 (by decide) (by decide) | exact ⟨by fail, by fail⟩) 7 ⟨by decide, by decide⟩ (by first | exact True.intro | with_reducible assumption | rfl | omega | trivial)) ?_
  rintro _ _ ⟨rfl, h1⟩
  refine ⟨rfl, ?_⟩
  rcases h1 with ⟨rfl, h1⟩
  refine go_toq PM256 (k := 2) (pc' := 8) (L' := [some (.inr (.inr (some 2023))), some (.inl p2)]) (st' := [.inl p2, .inr (.inr (some 2023))]) (w' := (SH, dt)) rfl ?_
  have r2 := sby_R 23 (p2).toNat
  refine go_smpq PM256 (L' := [some (.inr (.inr (some 2023))), some (.inl p2)]) (st' := [.inl ((am_Sby.getD 23 []).getD (p2).toNat 0)]) (w' := (SH, dt)) rfl rfl (s_bald (n := 7) (f := fun q => (am_Sby.getD 23 []).getD q 0) rfl (by first | exact bndx h_p2 (by decide) (by decide) | exact ⟨by fail, by fail⟩)) ?_
  have r3 : 0 ≤ am_and ((am_Sby.getD 23 []).getD (p2).toNat 0) 255 ∧ am_and ((am_Sby.getD 23 []).getD (p2).toNat 0) 255 ≤ 255 := and_R255
  have r4 := i2c_R (am_and ((am_Sby.getD 23 []).getD (p2).toNat 0) 255)
  refine go_toq PM256 (k := 3) (pc' := 14) (L' := [some (.inr (.inr (some 2023))), some (.inl p2)]) (st' := [.inl (am_i2c (am_and ((am_Sby.getD 23 []).getD (p2).toNat 0) 255))]) (w' := (SH, dt)) rfl ?_
  refine go_retvq PM256 (v := am_i2c (am_and ((am_Sby.getD 23 []).getD (p2).toNat 0) 255)) rfl (decide_eq_true (show 0 ≤ am_i2c (am_and ((am_Sby.getD 23 []).getD (p2).toNat 0) 255) ∧ am_i2c (am_and ((am_Sby.getD 23 []).getD (p2).toNat 0) 255) < 65536 by omega)) ?_
  exact ⟨rfl, ⟨_, rfl, ⟨by omega, by omega⟩, by exact ic_id ⟨by omega, by omega⟩⟩⟩
theorem sp_J0_charAt_5068e_23f (L : Nat) (xs : Nat → Int32) (sio : Option Nat) (d : Nat) (dt : Nat → Nat → Int) (hI : InvC dt)  (p1 : Int) (h_p1 : 0 ≤ p1 ∧ p1 ≤ 6)  : GO (am_XX L xs sio) (d + 3) 250 0 [some (.inr (.inr (some 1023))), some (.inl p1)] [] (SH, dt) (fun r w2 => w2 = (SH, dt) ∧ ((∃ v : Int, r = some (.inl v) ∧ (0 ≤ v ∧ v ≤ 65535) ∧ (v = (am_Sby.getD 23 []).getD p1.toNat 0)))) := by
  refine go_toq PM250 (k := 1) (pc' := 1) (L' := [some (.inr (.inr (some 1023))), some (.inl p1)]) (st' := [.inr (.inr (some 1023))]) (w' := (SH, dt)) rfl ?_
  refine go_callq PM250 PM254 (Q' := _) rfl rfl rfl rfl (sp_J0_isLatin1_aae02_1023 L xs sio (d + 2) dt hI   ) ?_
  rintro _ _ ⟨rfl, h1⟩
  refine ⟨rfl, ?_⟩
  rcases h1 with ⟨rfl, h1⟩
  refine go_toq PM250 (k := 4) (pc' := 12) (L' := [some (.inr (.inr (some 1023))), some (.inl p1)]) (st' := [.inl p1, .inr (.inr (some 2023))]) (w' := (SH, dt)) rfl ?_
  refine go_callq PM250 PM256 (Q' := _) rfl rfl rfl rfl (sp_J1_charAt_3b067_23f L xs sio (d + 0) dt hI  p1 (by first | exact h_p1 | exact bnd h_p1 (by decide) (by decide) | exact ⟨by fail, by fail⟩) ) ?_
  rintro _ _ ⟨rfl, h2⟩
  refine ⟨rfl, ?_⟩
  rcases h2 with ⟨v_h2, rfl, h2r, h2⟩
  refine go_retvq PM250 (v := v_h2) rfl (decide_eq_true (show 0 ≤ v_h2 ∧ v_h2 < 65536 by omega)) ?_
  exact ⟨rfl, ⟨_, rfl, ⟨by omega, by omega⟩, by first | exact True.intro | with_reducible assumption | rfl | fail | trivial⟩⟩
set_option maxRecDepth 20000 in
theorem sp_X6_is_23f (L : Nat) (xs : Nat → Int32) (sio : Option Nat) (d : Nat) (dt : Nat → Nat → Int) (hI : InvC dt)   (h_p0 : dt 79 13 ≤ 500) (h_p1 : dt 79 15 ≤ dt 79 13) (h_p2 : dt 79 13 ≤ dt 79 12) : GO (am_XX L xs sio) (d + 4) 156 0 [some (.inr (.inr (some 79))), some (.inr (.inr (some 1023))), none, none] [] (SH, dt) (fun r w2 => w2 = (SH, dt) ∧ ((∃ v : Int, r = some (.inl v) ∧ (0 ≤ v ∧ v ≤ 1) ∧ (v = wm (am_Sby.getD 23 []) (mB (dt 85) (dt 79 12)) (dt 79 15).toNat (dt 79 13).toNat)))) := by
  have r1 : 0 ≤ dt 79 13 ∧ dt 79 13 ≤ 501 := InvC_get hI 79 13 rfl rfl
  have r2 : 0 ≤ dt 79 15 ∧ dt 79 15 ≤ 500 := InvC_get hI 79 15 rfl rfl
  have r3 : 0 ≤ dt 79 12 ∧ dt 79 12 ≤ 500 := InvC_get hI 79 12 rfl rfl
  have hlen : (((am_Sby.getD 23 []).length : Nat) : Int) = 7 := rfl
  refine go_toq PM156 (k := 6) (pc' := 10) (L' := [some (.inr (.inr (some 79))), some (.inr (.inr (some 1023))), none, none]) (st' := [.inr (.inr (some 1023)), .inl ((dt 79 13) - (dt 79 15))]) (w' := (SH, dt)) rfl ?_
  refine go_callq PM156 PM249 (Q' := _) rfl rfl rfl rfl (sp_J0_length_8abf5_1023 L xs sio (d + 2) dt hI   ) ?_
  rintro _ _ ⟨rfl, h4⟩
  refine ⟨rfl, ?_⟩
  rcases h4 with ⟨rfl, h4⟩
  refine go_ifq PM156 (k := 0) (p1 := 20) (p2 := 16) (L' := [some (.inr (.inr (some 79))), some (.inr (.inr (some 1023))), none, none]) (st' := []) (w' := (SH, dt)) rfl (c_ne (a := (dt 79 13) - (dt 79 15)) (b := 7) ⟨by omega, by omega⟩ ⟨by decide, by decide⟩) (fun c5 => ?_) (fun c5 => ?_)
  · skip
    replace c5 := hid c5
    refine go_toq PM156 (k := 4) (pc' := 24) (L' := [some (.inr (.inr (some 79))), some (.inr (.inr (some 1023))), some (.inl 0), some (.inl 0)]) (st' := []) (w' := (SH, dt)) rfl ?_
    have loop18 : ∀ (k_ : Nat) (l24_2 : Int) (l24_3 : Int) (i13 : 0 ≤ l24_2 ∧ l24_2 ≤ 1) (i14 : 0 ≤ l24_3 ∧ l24_3 ≤ 7) (i15 : l24_2 = 1 → WQ (am_Sby.getD 23 []) (dt 79 13 - dt 79 15) (mB (dt 85) (dt 79 12)) (dt 79 15) l24_3) (i16 : l24_2 = 0 → wm (am_Sby.getD 23 []) (mB (dt 85) (dt 79 12)) (dt 79 15).toNat (dt 79 13).toNat = 0) (i17 : l24_2 = 0 ∨ dt 79 13 - dt 79 15 = 7), (8 - l24_3).toNat < k_ → GO (am_XX L xs sio) (d + 4) 156 24 [some (.inr (.inr (some 79))), some (.inr (.inr (some 1023))), some (.inl l24_2), some (.inl l24_3)] [] (SH, dt) (fun r w2 => w2 = (SH, dt) ∧ ((∃ v : Int, r = some (.inl v) ∧ (0 ≤ v ∧ v ≤ 1) ∧ (v = wm (am_Sby.getD 23 []) (mB (dt 85) (dt 79 12)) (dt 79 15).toNat (dt 79 13).toNat)))) := by
      intro k_
      induction k_ with
      | zero => intro l24_2 l24_3 i13 i14 i15 i16 i17 hm; exact absurd hm (Nat.not_lt_zero _)
      | succ k_ ih_loop18 =>
        intro l24_2 l24_3 i13 i14 i15 i16 i17 hm
        replace i15 := hid i15
        replace i16 := hid i16
        replace i17 := hid i17
        have q1 := i15
        have q2 := i16
        refine go_toq PM156 (k := 2) (pc' := 26) (L' := [some (.inr (.inr (some 79))), some (.inr (.inr (some 1023))), some (.inl l24_2), some (.inl l24_3)]) (st' := [.inr (.inr (some 1023)), .inl l24_3]) (w' := (SH, dt)) rfl ?_
        refine go_callq PM156 PM249 (Q' := _) rfl rfl rfl rfl (sp_J0_length_8abf5_1023 L xs sio (d + 2) dt hI   ) ?_
        rintro _ _ ⟨rfl, h19⟩
        refine ⟨rfl, ?_⟩
        rcases h19 with ⟨rfl, h19⟩
        refine go_ifq PM156 (k := 0) (p1 := 67) (p2 := 32) (L' := [some (.inr (.inr (some 79))), some (.inr (.inr (some 1023))), some (.inl l24_2), some (.inl l24_3)]) (st' := []) (w' := (SH, dt)) rfl (c_ge (a := l24_3) (b := 7) (by first | exact bnd i14 (by decide) (by decide) | exact ⟨by fail, by fail⟩) ⟨by decide, by decide⟩) (fun c20 => ?_) (fun c20 => ?_)
        · skip
          refine go_toq PM156 (k := 1) (pc' := 68) (L' := [some (.inr (.inr (some 79))), some (.inr (.inr (some 1023))), some (.inl l24_2), some (.inl l24_3)]) (st' := [.inl l24_2]) (w' := (SH, dt)) rfl ?_
          refine go_retvq PM156 (v := l24_2) rfl (decide_eq_true (show l24_2 = 0 ∨ l24_2 = 1 by omega)) ?_
          exact ⟨rfl, ⟨_, rfl, ⟨by omega, by omega⟩, by rcases (show l24_2 = 0 ∨ l24_2 = 1 by omega) with z | z <;> first | (rw [q2 z]; exact z) | (rw [WM_1 (q1 z) ⟨by omega, by omega⟩ (by omega)]; exact z)⟩⟩
        · skip
          refine go_ifq PM156 (k := 1) (p1 := 67) (p2 := 36) (L' := [some (.inr (.inr (some 79))), some (.inr (.inr (some 1023))), some (.inl l24_2), some (.inl l24_3)]) (st' := []) (w' := (SH, dt)) rfl (z_eq (a := l24_2) (by first | exact bnd i13 (by decide) (by decide) | exact ⟨by fail, by fail⟩)) (fun c21 => ?_) (fun c21 => ?_)
          · skip
            refine go_toq PM156 (k := 1) (pc' := 68) (L' := [some (.inr (.inr (some 79))), some (.inr (.inr (some 1023))), some (.inl l24_2), some (.inl l24_3)]) (st' := [.inl l24_2]) (w' := (SH, dt)) rfl ?_
            refine go_retvq PM156 (v := l24_2) rfl (decide_eq_true (show l24_2 = 0 ∨ l24_2 = 1 by omega)) ?_
            exact ⟨rfl, ⟨_, rfl, ⟨by omega, by omega⟩, by rcases (show l24_2 = 0 ∨ l24_2 = 1 by omega) with z | z <;> first | (rw [q2 z]; exact z) | (rw [WM_1 (q1 z) ⟨by omega, by omega⟩ (by omega)]; exact z)⟩⟩
          · skip
            replace c21 := hid c21
            refine go_toq PM156 (k := 6) (pc' := 46) (L' := [some (.inr (.inr (some 79))), some (.inr (.inr (some 1023))), some (.inl l24_2), some (.inl l24_3)]) (st' := [.inl ((dt 79 15) + l24_3), .inr (.inr (some 85))]) (w' := (SH, dt)) rfl ?_
            have r22 : 0 ≤ dt 85 (((dt 79 15) + l24_3).toNat) ∧ dt 85 (((dt 79 15) + l24_3).toNat) ≤ 255 := InvC_get hI 85 (((dt 79 15) + l24_3).toNat) rfl rfl
            have u61_ := hid (And.intro (unhid c5) (And.intro (unhid i16) (And.intro (unhid i17) (unhid c21))))
            refine go_smpq PM156 (L' := [some (.inr (.inr (some 79))), some (.inr (.inr (some 1023))), some (.inl l24_2), some (.inl l24_3)]) (st' := [.inl (dt 85 (((dt 79 15) + l24_3).toNat))]) (w' := (SH, dt)) rfl rfl (s_iald (n := 500) (f := dt 85) rfl ⟨by omega, by (have z_ := unhid u61_; omega)⟩) ?_
            refine go_toq PM156 (k := 2) (pc' := 49) (L' := [some (.inr (.inr (some 79))), some (.inr (.inr (some 1023))), some (.inl l24_2), some (.inl l24_3)]) (st' := [.inl l24_3, .inr (.inr (some 1023)), .inl (dt 85 (((dt 79 15) + l24_3).toNat))]) (w' := (SH, dt)) rfl ?_
            refine go_callq PM156 PM250 (Q' := _) rfl rfl rfl rfl (sp_J0_charAt_5068e_23f L xs sio (d + 0) dt hI  l24_3 (by first | exact bnd i14 (by decide) (by decide) | exact bndd i14 c20 (by decide) (by decide) | exact ⟨by fail, by fail⟩) ) ?_
            rintro _ _ ⟨rfl, h23⟩
            refine ⟨rfl, ?_⟩
            rcases h23 with ⟨v_h23, rfl, h23r, h23⟩
            refine go_ifq PM156 (k := 0) (p1 := 59) (p2 := 55) (L' := [some (.inr (.inr (some 79))), some (.inr (.inr (some 1023))), some (.inl l24_2), some (.inl l24_3)]) (st' := []) (w' := (SH, dt)) rfl (c_ne (a := dt 85 (((dt 79 15) + l24_3).toNat)) (b := v_h23) (by first | exact bnd r22 (by decide) (by decide) | exact ⟨by fail, by fail⟩) (by first | exact bnd h23r (by decide) (by decide) | exact ⟨by fail, by fail⟩)) (fun c24 => ?_) (fun c24 => ?_)
            · skip
              replace c24 := hid c24
              refine go_toq PM156 (k := 4) (pc' := 24) (L' := [some (.inr (.inr (some 79))), some (.inr (.inr (some 1023))), some (.inl 0), some (.inl (l24_3 + 1))]) (st' := []) (w' := (SH, dt)) rfl ?_
              have u62_ := hid (And.intro (unhid c5) (And.intro (unhid i16) (And.intro (unhid i17) (And.intro (unhid c21) (unhid c24)))))
              exact GO.le (ih_loop18 0 (l24_3 + 1) (by first | omega | (intro z; first | fail | exact WQ_0 (by fail) (by fail) | exact WM_a ⟨by fail, by fail⟩ (by fail) | exact WQ_s (q1 (by fail)) ⟨by fail, by fail⟩ (mB_in (by fail) (by fail)).symm h23 (by fail) | exact WM_b ⟨by fail, by fail⟩ (by fail) (mB_in (by fail) (by fail)).symm h23 (by fail))) (by first | omega | (intro z; first | fail | exact WQ_0 (by fail) (by fail) | exact WM_a ⟨by fail, by fail⟩ (by fail) | exact WQ_s (q1 (by fail)) ⟨by fail, by fail⟩ (mB_in (by fail) (by fail)).symm h23 (by fail) | exact WM_b ⟨by fail, by fail⟩ (by fail) (mB_in (by fail) (by fail)).symm h23 (by fail))) (by first | omega | (intro z; first | fail | exact WQ_0 (by fail) (by fail) | exact WM_a ⟨by fail, by fail⟩ (by fail) | exact WQ_s (q1 (by fail)) ⟨by fail, by fail⟩ (mB_in (by fail) (by fail)).symm h23 (by fail) | exact WM_b ⟨by fail, by fail⟩ (by fail) (mB_in (by fail) (by fail)).symm h23 (by fail))) (by first | (have z_ := unhid u62_; omega) | (intro z; first | fail | exact WQ_0 (by fail) (by fail) | exact WM_a ⟨by fail, by fail⟩ (by fail) | exact WQ_s (q1 (by fail)) ⟨by fail, by fail⟩ (mB_in (by fail) (by fail)).symm h23 (by fail) | exact WM_b ⟨by fail, by fail⟩ (by fail) (mB_in (by fail) (by fail)).symm h23 (by fail))) (by first | omega | (intro z; first | fail | exact WQ_0 (by fail) (by fail) | exact WM_a ⟨by fail, by fail⟩ (by fail) | exact WQ_s (q1 (by fail)) ⟨by fail, by fail⟩ (mB_in (by fail) (by fail)).symm h23 (by fail) | exact WM_b ⟨by fail, by fail⟩ (by fail) (mB_in (by fail) (by fail)).symm h23 (by fail))) (by omega)) ⟨.inl rfl, .inl rfl, .inl rfl, .inl rfl, trivial⟩
            · skip
              refine go_toq PM156 (k := 5) (pc' := 24) (L' := [some (.inr (.inr (some 79))), some (.inr (.inr (some 1023))), some (.inl 1), some (.inl (l24_3 + 1))]) (st' := []) (w' := (SH, dt)) rfl ?_
              exact GO.le (ih_loop18 1 (l24_3 + 1) (by first | omega | (intro z; first | fail | exact WQ_0 (by fail) (by fail) | exact WM_a ⟨by fail, by fail⟩ (by fail) | exact WQ_s (q1 (by fail)) ⟨by fail, by fail⟩ (mB_in (by fail) (by fail)).symm h23 (by fail) | exact WM_b ⟨by fail, by fail⟩ (by fail) (mB_in (by fail) (by fail)).symm h23 (by fail))) (by first | omega | (intro z; first | fail | exact WQ_0 (by fail) (by fail) | exact WM_a ⟨by fail, by fail⟩ (by fail) | exact WQ_s (q1 (by fail)) ⟨by fail, by fail⟩ (mB_in (by fail) (by fail)).symm h23 (by fail) | exact WM_b ⟨by fail, by fail⟩ (by fail) (mB_in (by fail) (by fail)).symm h23 (by fail))) (by first | (have z_ := unhid u61_; omega) | (intro z; first | fail | exact WQ_0 (by fail) (by fail) | exact WM_a ⟨by fail, by fail⟩ (by fail) | exact WQ_s (q1 (by fail)) ⟨by fail, by fail⟩ (mB_in (by fail) (by fail)).symm h23 (by fail) | exact WM_b ⟨by fail, by fail⟩ (by fail) (mB_in (by fail) (by fail)).symm h23 (by fail))) (by first | omega | (intro z; first | fail | exact WQ_0 (by fail) (by fail) | exact WM_a ⟨by fail, by fail⟩ (by fail) | exact WQ_s (q1 (by fail)) ⟨by fail, by fail⟩ (mB_in (by fail) (by fail)).symm h23 (by fail) | exact WM_b ⟨by fail, by fail⟩ (by fail) (mB_in (by fail) (by fail)).symm h23 (by fail))) (by first | (have z_ := unhid u61_; omega) | (intro z; first | fail | exact WQ_0 (by fail) (by fail) | exact WM_a ⟨by fail, by fail⟩ (by fail) | exact WQ_s (q1 (by fail)) ⟨by fail, by fail⟩ (mB_in (by fail) (by fail)).symm h23 (by fail) | exact WM_b ⟨by fail, by fail⟩ (by fail) (mB_in (by fail) (by fail)).symm h23 (by fail))) (by omega)) ⟨.inl rfl, .inl rfl, .inl rfl, .inl rfl, trivial⟩
    exact GO.le (loop18 _ 0 0 (by first | omega | (intro z; first | fail | exact WQ_0 (by fail) (by fail) | exact WM_a ⟨by fail, by fail⟩ (by fail) | exact WQ_s (q1 (by fail)) ⟨by fail, by fail⟩ (mB_in (by fail) (by fail)).symm hI (by fail) | exact WM_b ⟨by fail, by fail⟩ (by fail) (mB_in (by fail) (by fail)).symm hI (by fail))) (by first | omega | (intro z; first | fail | exact WQ_0 (by fail) (by fail) | exact WM_a ⟨by fail, by fail⟩ (by fail) | exact WQ_s (q1 (by fail)) ⟨by fail, by fail⟩ (mB_in (by fail) (by fail)).symm hI (by fail) | exact WM_b ⟨by fail, by fail⟩ (by fail) (mB_in (by fail) (by fail)).symm hI (by fail))) (by first | omega | (intro z; first | fail | exact WQ_0 (by fail) (by fail) | exact WM_a ⟨by fail, by fail⟩ (by fail) | exact WQ_s (q1 (by fail)) ⟨by fail, by fail⟩ (mB_in (by fail) (by fail)).symm hI (by fail) | exact WM_b ⟨by fail, by fail⟩ (by fail) (mB_in (by fail) (by fail)).symm hI (by fail))) (by first | fail | (intro z; first | fail | exact WQ_0 (by fail) (by fail) | exact WM_a ⟨by omega, by omega⟩ (by (have z0_ := unhid c5; omega)) | exact WQ_s (q1 (by fail)) ⟨by fail, by fail⟩ (mB_in (by fail) (by fail)).symm hI (by fail) | exact WM_b ⟨by fail, by fail⟩ (by fail) (mB_in (by fail) (by fail)).symm hI (by fail))) (by first | omega | (intro z; first | fail | exact WQ_0 (by fail) (by fail) | exact WM_a ⟨by fail, by fail⟩ (by fail) | exact WQ_s (q1 (by fail)) ⟨by fail, by fail⟩ (mB_in (by fail) (by fail)).symm hI (by fail) | exact WM_b ⟨by fail, by fail⟩ (by fail) (mB_in (by fail) (by fail)).symm hI (by fail))) (Nat.lt_succ_self _)) ⟨.inl rfl, .inl rfl, .inl rfl, .inl rfl, trivial⟩
  · skip
    refine go_toq PM156 (k := 5) (pc' := 24) (L' := [some (.inr (.inr (some 79))), some (.inr (.inr (some 1023))), some (.inl 1), some (.inl 0)]) (st' := []) (w' := (SH, dt)) rfl ?_
    have loop37 : ∀ (k_ : Nat) (l24_2 : Int) (l24_3 : Int) (i32 : 0 ≤ l24_2 ∧ l24_2 ≤ 1) (i33 : 0 ≤ l24_3 ∧ l24_3 ≤ 7) (i34 : l24_2 = 1 → WQ (am_Sby.getD 23 []) (dt 79 13 - dt 79 15) (mB (dt 85) (dt 79 12)) (dt 79 15) l24_3) (i35 : l24_2 = 0 → wm (am_Sby.getD 23 []) (mB (dt 85) (dt 79 12)) (dt 79 15).toNat (dt 79 13).toNat = 0) (i36 : l24_2 = 0 ∨ dt 79 13 - dt 79 15 = 7), (8 - l24_3).toNat < k_ → GO (am_XX L xs sio) (d + 4) 156 24 [some (.inr (.inr (some 79))), some (.inr (.inr (some 1023))), some (.inl l24_2), some (.inl l24_3)] [] (SH, dt) (fun r w2 => w2 = (SH, dt) ∧ ((∃ v : Int, r = some (.inl v) ∧ (0 ≤ v ∧ v ≤ 1) ∧ (v = wm (am_Sby.getD 23 []) (mB (dt 85) (dt 79 12)) (dt 79 15).toNat (dt 79 13).toNat)))) := by
      intro k_
      induction k_ with
      | zero => intro l24_2 l24_3 i32 i33 i34 i35 i36 hm; exact absurd hm (Nat.not_lt_zero _)
      | succ k_ ih_loop37 =>
        intro l24_2 l24_3 i32 i33 i34 i35 i36 hm
        replace i34 := hid i34
        replace i35 := hid i35
        replace i36 := hid i36
        have q1 := i34
        have q2 := i35
        refine go_toq PM156 (k := 2) (pc' := 26) (L' := [some (.inr (.inr (some 79))), some (.inr (.inr (some 1023))), some (.inl l24_2), some (.inl l24_3)]) (st' := [.inr (.inr (some 1023)), .inl l24_3]) (w' := (SH, dt)) rfl ?_
        refine go_callq PM156 PM249 (Q' := _) rfl rfl rfl rfl (sp_J0_length_8abf5_1023 L xs sio (d + 2) dt hI   ) ?_
        rintro _ _ ⟨rfl, h38⟩
        refine ⟨rfl, ?_⟩
        rcases h38 with ⟨rfl, h38⟩
        refine go_ifq PM156 (k := 0) (p1 := 67) (p2 := 32) (L' := [some (.inr (.inr (some 79))), some (.inr (.inr (some 1023))), some (.inl l24_2), some (.inl l24_3)]) (st' := []) (w' := (SH, dt)) rfl (c_ge (a := l24_3) (b := 7) (by first | exact bnd i33 (by decide) (by decide) | exact ⟨by fail, by fail⟩) ⟨by decide, by decide⟩) (fun c39 => ?_) (fun c39 => ?_)
        · skip
          refine go_toq PM156 (k := 1) (pc' := 68) (L' := [some (.inr (.inr (some 79))), some (.inr (.inr (some 1023))), some (.inl l24_2), some (.inl l24_3)]) (st' := [.inl l24_2]) (w' := (SH, dt)) rfl ?_
          refine go_retvq PM156 (v := l24_2) rfl (decide_eq_true (show l24_2 = 0 ∨ l24_2 = 1 by omega)) ?_
          exact ⟨rfl, ⟨_, rfl, ⟨by omega, by omega⟩, by rcases (show l24_2 = 0 ∨ l24_2 = 1 by omega) with z | z <;> first | (rw [q2 z]; exact z) | (rw [WM_1 (q1 z) ⟨by omega, by omega⟩ (by omega)]; exact z)⟩⟩
        · skip
          refine go_ifq PM156 (k := 1) (p1 := 67) (p2 := 36) (L' := [some (.inr (.inr (some 79))), some (.inr (.inr (some 1023))), some (.inl l24_2), some (.inl l24_3)]) (st' := []) (w' := (SH, dt)) rfl (z_eq (a := l24_2) (by first | exact bnd i32 (by decide) (by decide) | exact ⟨by fail, by fail⟩)) (fun c40 => ?_) (fun c40 => ?_)
          · skip
            refine go_toq PM156 (k := 1) (pc' := 68) (L' := [some (.inr (.inr (some 79))), some (.inr (.inr (some 1023))), some (.inl l24_2), some (.inl l24_3)]) (st' := [.inl l24_2]) (w' := (SH, dt)) rfl ?_
            refine go_retvq PM156 (v := l24_2) rfl (decide_eq_true (show l24_2 = 0 ∨ l24_2 = 1 by omega)) ?_
            exact ⟨rfl, ⟨_, rfl, ⟨by omega, by omega⟩, by rcases (show l24_2 = 0 ∨ l24_2 = 1 by omega) with z | z <;> first | (rw [q2 z]; exact z) | (rw [WM_1 (q1 z) ⟨by omega, by omega⟩ (by omega)]; exact z)⟩⟩
          · skip
            replace c40 := hid c40
            refine go_toq PM156 (k := 6) (pc' := 46) (L' := [some (.inr (.inr (some 79))), some (.inr (.inr (some 1023))), some (.inl l24_2), some (.inl l24_3)]) (st' := [.inl ((dt 79 15) + l24_3), .inr (.inr (some 85))]) (w' := (SH, dt)) rfl ?_
            have r41 : 0 ≤ dt 85 (((dt 79 15) + l24_3).toNat) ∧ dt 85 (((dt 79 15) + l24_3).toNat) ≤ 255 := InvC_get hI 85 (((dt 79 15) + l24_3).toNat) rfl rfl
            refine go_smpq PM156 (L' := [some (.inr (.inr (some 79))), some (.inr (.inr (some 1023))), some (.inl l24_2), some (.inl l24_3)]) (st' := [.inl (dt 85 (((dt 79 15) + l24_3).toNat))]) (w' := (SH, dt)) rfl rfl (s_iald (n := 500) (f := dt 85) rfl ⟨by omega, by omega⟩) ?_
            refine go_toq PM156 (k := 2) (pc' := 49) (L' := [some (.inr (.inr (some 79))), some (.inr (.inr (some 1023))), some (.inl l24_2), some (.inl l24_3)]) (st' := [.inl l24_3, .inr (.inr (some 1023)), .inl (dt 85 (((dt 79 15) + l24_3).toNat))]) (w' := (SH, dt)) rfl ?_
            refine go_callq PM156 PM250 (Q' := _) rfl rfl rfl rfl (sp_J0_charAt_5068e_23f L xs sio (d + 0) dt hI  l24_3 (by first | exact bnd i33 (by decide) (by decide) | exact bndd i33 c39 (by decide) (by decide) | exact ⟨by fail, by fail⟩) ) ?_
            rintro _ _ ⟨rfl, h42⟩
            refine ⟨rfl, ?_⟩
            rcases h42 with ⟨v_h42, rfl, h42r, h42⟩
            refine go_ifq PM156 (k := 0) (p1 := 59) (p2 := 55) (L' := [some (.inr (.inr (some 79))), some (.inr (.inr (some 1023))), some (.inl l24_2), some (.inl l24_3)]) (st' := []) (w' := (SH, dt)) rfl (c_ne (a := dt 85 (((dt 79 15) + l24_3).toNat)) (b := v_h42) (by first | exact bnd r41 (by decide) (by decide) | exact ⟨by fail, by fail⟩) (by first | exact bnd h42r (by decide) (by decide) | exact ⟨by fail, by fail⟩)) (fun c43 => ?_) (fun c43 => ?_)
            · skip
              replace c43 := hid c43
              refine go_toq PM156 (k := 4) (pc' := 24) (L' := [some (.inr (.inr (some 79))), some (.inr (.inr (some 1023))), some (.inl 0), some (.inl (l24_3 + 1))]) (st' := []) (w' := (SH, dt)) rfl ?_
              have u63_ := hid (And.intro (unhid i35) (And.intro (unhid i36) (And.intro (unhid c40) (unhid c43))))
              exact GO.le (ih_loop37 0 (l24_3 + 1) (by first | omega | (intro z; first | fail | exact WQ_0 (by fail) (by fail) | exact WM_a ⟨by fail, by fail⟩ (by fail) | exact WQ_s (q1 (by fail)) ⟨by fail, by fail⟩ (mB_in (by fail) (by fail)).symm h42 (by fail) | exact WM_b ⟨by fail, by fail⟩ (by fail) (mB_in (by fail) (by fail)).symm h42 (by fail))) (by first | omega | (intro z; first | fail | exact WQ_0 (by fail) (by fail) | exact WM_a ⟨by fail, by fail⟩ (by fail) | exact WQ_s (q1 (by fail)) ⟨by fail, by fail⟩ (mB_in (by fail) (by fail)).symm h42 (by fail) | exact WM_b ⟨by fail, by fail⟩ (by fail) (mB_in (by fail) (by fail)).symm h42 (by fail))) (by first | omega | (intro z; first | fail | exact WQ_0 (by fail) (by fail) | exact WM_a ⟨by fail, by fail⟩ (by fail) | exact WQ_s (q1 (by fail)) ⟨by fail, by fail⟩ (mB_in (by fail) (by fail)).symm h42 (by fail) | exact WM_b ⟨by fail, by fail⟩ (by fail) (mB_in (by fail) (by fail)).symm h42 (by fail))) (by first | fail | (intro z; first | fail | exact WQ_0 (by fail) (by fail) | exact WM_a ⟨by omega, by omega⟩ (by fail) | exact WQ_s (q1 (by (have z_ := unhid u63_; omega))) ⟨by omega, by omega⟩ (mB_in (by omega) (by omega)).symm h42 (by fail) | exact WM_b ⟨by omega, by omega⟩ (by omega) (mB_in (by omega) (by omega)).symm h42 (by (have z_ := unhid u63_; omega)))) (by first | omega | (intro z; first | fail | exact WQ_0 (by fail) (by fail) | exact WM_a ⟨by fail, by fail⟩ (by fail) | exact WQ_s (q1 (by fail)) ⟨by fail, by fail⟩ (mB_in (by fail) (by fail)).symm h42 (by fail) | exact WM_b ⟨by fail, by fail⟩ (by fail) (mB_in (by fail) (by fail)).symm h42 (by fail))) (by omega)) ⟨.inl rfl, .inl rfl, .inl rfl, .inl rfl, trivial⟩
            · skip
              refine go_toq PM156 (k := 5) (pc' := 24) (L' := [some (.inr (.inr (some 79))), some (.inr (.inr (some 1023))), some (.inl 1), some (.inl (l24_3 + 1))]) (st' := []) (w' := (SH, dt)) rfl ?_
              exact GO.le (ih_loop37 1 (l24_3 + 1) (by first | omega | (intro z; first | fail | exact WQ_0 (by fail) (by fail) | exact WM_a ⟨by fail, by fail⟩ (by fail) | exact WQ_s (q1 (by fail)) ⟨by fail, by fail⟩ (mB_in (by fail) (by fail)).symm h42 (by fail) | exact WM_b ⟨by fail, by fail⟩ (by fail) (mB_in (by fail) (by fail)).symm h42 (by fail))) (by first | omega | (intro z; first | fail | exact WQ_0 (by fail) (by fail) | exact WM_a ⟨by fail, by fail⟩ (by fail) | exact WQ_s (q1 (by fail)) ⟨by fail, by fail⟩ (mB_in (by fail) (by fail)).symm h42 (by fail) | exact WM_b ⟨by fail, by fail⟩ (by fail) (mB_in (by fail) (by fail)).symm h42 (by fail))) (by first | fail | (intro z; first | fail | exact WQ_0 (by omega) (by fail) | exact WM_a ⟨by fail, by fail⟩ (by fail) | exact WQ_s (q1 (by (have z0_ := unhid i35; have z1_ := unhid i36; have z2_ := unhid c40; omega))) ⟨by omega, by omega⟩ (mB_in (by omega) (by omega)).symm h42 (by omega) | exact WM_b ⟨by fail, by fail⟩ (by fail) (mB_in (by fail) (by fail)).symm h42 (by fail))) (by first | omega | (intro z; first | fail | exact WQ_0 (by fail) (by fail) | exact WM_a ⟨by fail, by fail⟩ (by fail) | exact WQ_s (q1 (by fail)) ⟨by fail, by fail⟩ (mB_in (by fail) (by fail)).symm h42 (by fail) | exact WM_b ⟨by fail, by fail⟩ (by fail) (mB_in (by fail) (by fail)).symm h42 (by fail))) (by first | omega | (intro z; first | fail | exact WQ_0 (by fail) (by fail) | exact WM_a ⟨by fail, by fail⟩ (by fail) | exact WQ_s (q1 (by fail)) ⟨by fail, by fail⟩ (mB_in (by fail) (by fail)).symm h42 (by fail) | exact WM_b ⟨by fail, by fail⟩ (by fail) (mB_in (by fail) (by fail)).symm h42 (by fail))) (by omega)) ⟨.inl rfl, .inl rfl, .inl rfl, .inl rfl, trivial⟩
    exact GO.le (loop37 _ 1 0 (by first | omega | (intro z; first | fail | exact WQ_0 (by fail) (by fail) | exact WM_a ⟨by fail, by fail⟩ (by fail) | exact WQ_s (q1 (by fail)) ⟨by fail, by fail⟩ (mB_in (by fail) (by fail)).symm hI (by fail) | exact WM_b ⟨by fail, by fail⟩ (by fail) (mB_in (by fail) (by fail)).symm hI (by fail))) (by first | omega | (intro z; first | fail | exact WQ_0 (by fail) (by fail) | exact WM_a ⟨by fail, by fail⟩ (by fail) | exact WQ_s (q1 (by fail)) ⟨by fail, by fail⟩ (mB_in (by fail) (by fail)).symm hI (by fail) | exact WM_b ⟨by fail, by fail⟩ (by fail) (mB_in (by fail) (by fail)).symm hI (by fail))) (by first | fail | (intro z; first | fail | exact WQ_0 (by omega) (by omega) | exact WM_a ⟨by fail, by fail⟩ (by fail) | exact WQ_s (q1 (by fail)) ⟨by fail, by fail⟩ (mB_in (by fail) (by fail)).symm hI (by fail) | exact WM_b ⟨by fail, by fail⟩ (by fail) (mB_in (by fail) (by fail)).symm hI (by fail))) (by first | omega | (intro z; first | fail | exact WQ_0 (by fail) (by fail) | exact WM_a ⟨by fail, by fail⟩ (by fail) | exact WQ_s (q1 (by fail)) ⟨by fail, by fail⟩ (mB_in (by fail) (by fail)).symm hI (by fail) | exact WM_b ⟨by fail, by fail⟩ (by fail) (mB_in (by fail) (by fail)).symm hI (by fail))) (by first | omega | (intro z; first | fail | exact WQ_0 (by fail) (by fail) | exact WM_a ⟨by fail, by fail⟩ (by fail) | exact WQ_s (q1 (by fail)) ⟨by fail, by fail⟩ (mB_in (by fail) (by fail)).symm hI (by fail) | exact WM_b ⟨by fail, by fail⟩ (by fail) (mB_in (by fail) (by fail)).symm hI (by fail))) (Nat.lt_succ_self _)) ⟨.inl rfl, .inl rfl, .inl rfl, .inl rfl, trivial⟩
set_option maxRecDepth 20000 in
theorem sp_X6_actWord_f (L : Nat) (xs : Nat → Int32) (sio : Option Nat) (d : Nat) (dt : Nat → Nat → Int) (hI : InvC dt)   (h_p0 : dt 79 13 ≤ 500) (h_p1 : dt 79 15 ≤ dt 79 13) (h_p2 : dt 79 13 ≤ dt 79 12) : GO (am_XX L xs sio) (d + 5) 157 0 [some (.inr (.inr (some 79)))] [] (SH, dt) (fun r w2 => w2 = (SH, dt) ∧ ((r = some (.inl 20) ∧ (wi wS (mB (dt 85) (dt 79 12)) (dt 79 15).toNat (dt 79 13).toNat 0 = 0)) ∨ (r = some (.inl 21) ∧ (wi wS (mB (dt 85) (dt 79 12)) (dt 79 15).toNat (dt 79 13).toNat 0 = 1)) ∨ (r = some (.inl 22) ∧ (wi wS (mB (dt 85) (dt 79 12)) (dt 79 15).toNat (dt 79 13).toNat 0 = 2)) ∨ (r = some (.inl 23) ∧ (wi wS (mB (dt 85) (dt 79 12)) (dt 79 15).toNat (dt 79 13).toNat 0 = 3)) ∨ (r = some (.inl 24) ∧ (wi wS (mB (dt 85) (dt 79 12)) (dt 79 15).toNat (dt 79 13).toNat 0 = 4)) ∨ (r = some (.inl 25) ∧ (wi wS (mB (dt 85) (dt 79 12)) (dt 79 15).toNat (dt 79 13).toNat 0 = 5)) ∨ (r = some (.inl 26) ∧ (wi wS (mB (dt 85) (dt 79 12)) (dt 79 15).toNat (dt 79 13).toNat 0 = 6)) ∨ (r = some (.inl 27) ∧ (wi wS (mB (dt 85) (dt 79 12)) (dt 79 15).toNat (dt 79 13).toNat 0 = 7)) ∨ (r = some (.inl 28) ∧ (wi wS (mB (dt 85) (dt 79 12)) (dt 79 15).toNat (dt 79 13).toNat 0 = 8)) ∨ (r = some (.inl 1) ∧ (wi wS (mB (dt 85) (dt 79 12)) (dt 79 15).toNat (dt 79 13).toNat 0 = (-1))))) := by
  refine go_toq PM157 (k := 2) (pc' := 3) (L' := [some (.inr (.inr (some 79)))]) (st' := [.inr (.inr (some 1003)), .inr (.inr (some 79))]) (w' := (SH, dt)) rfl ?_
  refine go_callq PM157 PM156 (Q' := _) rfl rfl rfl rfl (sp_X6_is_3f L xs sio (d + 0) dt hI   (by first | exact True.intro | with_reducible assumption | rfl | fail | trivial) (by first | exact True.intro | with_reducible assumption | rfl | fail | trivial) (by first | exact True.intro | with_reducible assumption | rfl | fail | trivial)) ?_
  rintro _ _ ⟨rfl, h1⟩
  refine ⟨rfl, ?_⟩
  rcases h1 with ⟨v_h1, rfl, h1r, h1⟩
  refine go_ifq PM157 (k := 0) (p1 := 12) (p2 := 9) (L' := [some (.inr (.inr (some 79)))]) (st' := []) (w' := (SH, dt)) rfl (z_eq (a := v_h1) (by first | exact bnd h1r (by decide) (by decide) | exact ⟨by fail, by fail⟩)) (fun c2 => ?_) (fun c2 => ?_)
  · skip
    refine go_toq PM157 (k := 2) (pc' := 15) (L' := [some (.inr (.inr (some 79)))]) (st' := [.inr (.inr (some 1004)), .inr (.inr (some 79))]) (w' := (SH, dt)) rfl ?_
    refine go_callq PM157 PM156 (Q' := _) rfl rfl rfl rfl (sp_X6_is_4f L xs sio (d + 0) dt hI   (by first | exact True.intro | with_reducible assumption | rfl | fail | trivial) (by first | exact True.intro | with_reducible assumption | rfl | fail | trivial) (by first | exact True.intro | with_reducible assumption | rfl | fail | trivial)) ?_
    rintro _ _ ⟨rfl, h3⟩
    refine ⟨rfl, ?_⟩
    rcases h3 with ⟨v_h3, rfl, h3r, h3⟩
    refine go_ifq PM157 (k := 0) (p1 := 24) (p2 := 21) (L' := [some (.inr (.inr (some 79)))]) (st' := []) (w' := (SH, dt)) rfl (z_eq (a := v_h3) (by first | exact bnd h3r (by decide) (by decide) | exact ⟨by fail, by fail⟩)) (fun c4 => ?_) (fun c4 => ?_)
    · skip
      refine go_toq PM157 (k := 2) (pc' := 27) (L' := [some (.inr (.inr (some 79)))]) (st' := [.inr (.inr (some 1005)), .inr (.inr (some 79))]) (w' := (SH, dt)) rfl ?_
      refine go_callq PM157 PM156 (Q' := _) rfl rfl rfl rfl (sp_X6_is_5f L xs sio (d + 0) dt hI   (by first | exact True.intro | with_reducible assumption | rfl | fail | trivial) (by first | exact True.intro | with_reducible assumption | rfl | fail | trivial) (by first | exact True.intro | with_reducible assumption | rfl | fail | trivial)) ?_
      rintro _ _ ⟨rfl, h5⟩
      refine ⟨rfl, ?_⟩
      rcases h5 with ⟨v_h5, rfl, h5r, h5⟩
      refine go_ifq PM157 (k := 0) (p1 := 36) (p2 := 33) (L' := [some (.inr (.inr (some 79)))]) (st' := []) (w' := (SH, dt)) rfl (z_eq (a := v_h5) (by first | exact bnd h5r (by decide) (by decide) | exact ⟨by fail, by fail⟩)) (fun c6 => ?_) (fun c6 => ?_)
      · skip
        refine go_toq PM157 (k := 2) (pc' := 39) (L' := [some (.inr (.inr (some 79)))]) (st' := [.inr (.inr (some 1006)), .inr (.inr (some 79))]) (w' := (SH, dt)) rfl ?_
        refine go_callq PM157 PM156 (Q' := _) rfl rfl rfl rfl (sp_X6_is_6f L xs sio (d + 0) dt hI   (by first | exact True.intro | with_reducible assumption | rfl | fail | trivial) (by first | exact True.intro | with_reducible assumption | rfl | fail | trivial) (by first | exact True.intro | with_reducible assumption | rfl | fail | trivial)) ?_
        rintro _ _ ⟨rfl, h7⟩
        refine ⟨rfl, ?_⟩
        rcases h7 with ⟨v_h7, rfl, h7r, h7⟩
        refine go_ifq PM157 (k := 0) (p1 := 48) (p2 := 45) (L' := [some (.inr (.inr (some 79)))]) (st' := []) (w' := (SH, dt)) rfl (z_eq (a := v_h7) (by first | exact bnd h7r (by decide) (by decide) | exact ⟨by fail, by fail⟩)) (fun c8 => ?_) (fun c8 => ?_)
        · skip
          refine go_toq PM157 (k := 2) (pc' := 51) (L' := [some (.inr (.inr (some 79)))]) (st' := [.inr (.inr (some 1007)), .inr (.inr (some 79))]) (w' := (SH, dt)) rfl ?_
          refine go_callq PM157 PM156 (Q' := _) rfl rfl rfl rfl (sp_X6_is_7f L xs sio (d + 0) dt hI   (by first | exact True.intro | with_reducible assumption | rfl | fail | trivial) (by first | exact True.intro | with_reducible assumption | rfl | fail | trivial) (by first | exact True.intro | with_reducible assumption | rfl | fail | trivial)) ?_
          rintro _ _ ⟨rfl, h9⟩
          refine ⟨rfl, ?_⟩
          rcases h9 with ⟨v_h9, rfl, h9r, h9⟩
          refine go_ifq PM157 (k := 0) (p1 := 60) (p2 := 57) (L' := [some (.inr (.inr (some 79)))]) (st' := []) (w' := (SH, dt)) rfl (z_eq (a := v_h9) (by first | exact bnd h9r (by decide) (by decide) | exact ⟨by fail, by fail⟩)) (fun c10 => ?_) (fun c10 => ?_)
          · skip
            refine go_toq PM157 (k := 2) (pc' := 63) (L' := [some (.inr (.inr (some 79)))]) (st' := [.inr (.inr (some 1008)), .inr (.inr (some 79))]) (w' := (SH, dt)) rfl ?_
            refine go_callq PM157 PM156 (Q' := _) rfl rfl rfl rfl (sp_X6_is_8f L xs sio (d + 0) dt hI   (by first | exact True.intro | with_reducible assumption | rfl | fail | trivial) (by first | exact True.intro | with_reducible assumption | rfl | fail | trivial) (by first | exact True.intro | with_reducible assumption | rfl | fail | trivial)) ?_
            rintro _ _ ⟨rfl, h11⟩
            refine ⟨rfl, ?_⟩
            rcases h11 with ⟨v_h11, rfl, h11r, h11⟩
            refine go_ifq PM157 (k := 0) (p1 := 72) (p2 := 69) (L' := [some (.inr (.inr (some 79)))]) (st' := []) (w' := (SH, dt)) rfl (z_eq (a := v_h11) (by first | exact bnd h11r (by decide) (by decide) | exact ⟨by fail, by fail⟩)) (fun c12 => ?_) (fun c12 => ?_)
            · skip
              refine go_toq PM157 (k := 2) (pc' := 75) (L' := [some (.inr (.inr (some 79)))]) (st' := [.inr (.inr (some 1009)), .inr (.inr (some 79))]) (w' := (SH, dt)) rfl ?_
              refine go_callq PM157 PM156 (Q' := _) rfl rfl rfl rfl (sp_X6_is_9f L xs sio (d + 0) dt hI   (by first | exact True.intro | with_reducible assumption | rfl | fail | trivial) (by first | exact True.intro | with_reducible assumption | rfl | fail | trivial) (by first | exact True.intro | with_reducible assumption | rfl | fail | trivial)) ?_
              rintro _ _ ⟨rfl, h13⟩
              refine ⟨rfl, ?_⟩
              rcases h13 with ⟨v_h13, rfl, h13r, h13⟩
              refine go_ifq PM157 (k := 0) (p1 := 84) (p2 := 81) (L' := [some (.inr (.inr (some 79)))]) (st' := []) (w' := (SH, dt)) rfl (z_eq (a := v_h13) (by first | exact bnd h13r (by decide) (by decide) | exact ⟨by fail, by fail⟩)) (fun c14 => ?_) (fun c14 => ?_)
              · skip
                refine go_toq PM157 (k := 2) (pc' := 87) (L' := [some (.inr (.inr (some 79)))]) (st' := [.inr (.inr (some 1010)), .inr (.inr (some 79))]) (w' := (SH, dt)) rfl ?_
                refine go_callq PM157 PM156 (Q' := _) rfl rfl rfl rfl (sp_X6_is_10f L xs sio (d + 0) dt hI   (by first | exact True.intro | with_reducible assumption | rfl | fail | trivial) (by first | exact True.intro | with_reducible assumption | rfl | fail | trivial) (by first | exact True.intro | with_reducible assumption | rfl | fail | trivial)) ?_
                rintro _ _ ⟨rfl, h15⟩
                refine ⟨rfl, ?_⟩
                rcases h15 with ⟨v_h15, rfl, h15r, h15⟩
                refine go_ifq PM157 (k := 0) (p1 := 96) (p2 := 93) (L' := [some (.inr (.inr (some 79)))]) (st' := []) (w' := (SH, dt)) rfl (z_eq (a := v_h15) (by first | exact bnd h15r (by decide) (by decide) | exact ⟨by fail, by fail⟩)) (fun c16 => ?_) (fun c16 => ?_)
                · skip
                  refine go_toq PM157 (k := 2) (pc' := 99) (L' := [some (.inr (.inr (some 79)))]) (st' := [.inr (.inr (some 1011)), .inr (.inr (some 79))]) (w' := (SH, dt)) rfl ?_
                  refine go_callq PM157 PM156 (Q' := _) rfl rfl rfl rfl (sp_X6_is_11f L xs sio (d + 0) dt hI   (by first | exact True.intro | with_reducible assumption | rfl | fail | trivial) (by first | exact True.intro | with_reducible assumption | rfl | fail | trivial) (by first | exact True.intro | with_reducible assumption | rfl | fail | trivial)) ?_
                  rintro _ _ ⟨rfl, h17⟩
                  refine ⟨rfl, ?_⟩
                  rcases h17 with ⟨v_h17, rfl, h17r, h17⟩
                  refine go_ifq PM157 (k := 0) (p1 := 110) (p2 := 105) (L' := [some (.inr (.inr (some 79)))]) (st' := []) (w' := (SH, dt)) rfl (z_eq (a := v_h17) (by first | exact bnd h17r (by decide) (by decide) | exact ⟨by fail, by fail⟩)) (fun c18 => ?_) (fun c18 => ?_)
                  · skip
                    refine go_retq PM157 (k := 1) (r := some (.inl 1)) (w1 := (SH, dt)) rfl ?_
                    exact ⟨rfl, (Or.inr (Or.inr (Or.inr (Or.inr (Or.inr (Or.inr (Or.inr (Or.inr (Or.inr ⟨rfl, by show wi [am_Sby.getD 3 [], am_Sby.getD 4 [], am_Sby.getD 5 [], am_Sby.getD 6 [], am_Sby.getD 7 [], am_Sby.getD 8 [], am_Sby.getD 9 [], am_Sby.getD 10 [], am_Sby.getD 11 []] _ _ _ _ = _; (repeat (first | rw [wi_n (by omega)] | rw [wi_h (by fail)])); first | done | rfl⟩)))))))))⟩
                  · skip
                    replace c18 := hid c18
                    refine go_retq PM157 (k := 2) (r := some (.inl 28)) (w1 := (SH, dt)) rfl ?_
                    exact ⟨rfl, (Or.inr (Or.inr (Or.inr (Or.inr (Or.inr (Or.inr (Or.inr (Or.inr (Or.inl ⟨rfl, by show wi [am_Sby.getD 3 [], am_Sby.getD 4 [], am_Sby.getD 5 [], am_Sby.getD 6 [], am_Sby.getD 7 [], am_Sby.getD 8 [], am_Sby.getD 9 [], am_Sby.getD 10 [], am_Sby.getD 11 []] _ _ _ _ = _; (repeat (first | rw [wi_n (by omega)] | rw [wi_h (by (have z0_ := unhid c18; omega))])); first | done | rfl⟩)))))))))⟩
                · skip
                  replace c16 := hid c16
                  refine go_retq PM157 (k := 1) (r := some (.inl 27)) (w1 := (SH, dt)) rfl ?_
                  exact ⟨rfl, (Or.inr (Or.inr (Or.inr (Or.inr (Or.inr (Or.inr (Or.inr (Or.inl ⟨rfl, by show wi [am_Sby.getD 3 [], am_Sby.getD 4 [], am_Sby.getD 5 [], am_Sby.getD 6 [], am_Sby.getD 7 [], am_Sby.getD 8 [], am_Sby.getD 9 [], am_Sby.getD 10 [], am_Sby.getD 11 []] _ _ _ _ = _; (repeat (first | rw [wi_n (by omega)] | rw [wi_h (by (have z0_ := unhid c16; omega))])); first | done | rfl⟩))))))))⟩
              · skip
                replace c14 := hid c14
                refine go_retq PM157 (k := 1) (r := some (.inl 26)) (w1 := (SH, dt)) rfl ?_
                exact ⟨rfl, (Or.inr (Or.inr (Or.inr (Or.inr (Or.inr (Or.inr (Or.inl ⟨rfl, by show wi [am_Sby.getD 3 [], am_Sby.getD 4 [], am_Sby.getD 5 [], am_Sby.getD 6 [], am_Sby.getD 7 [], am_Sby.getD 8 [], am_Sby.getD 9 [], am_Sby.getD 10 [], am_Sby.getD 11 []] _ _ _ _ = _; (repeat (first | rw [wi_n (by omega)] | rw [wi_h (by (have z0_ := unhid c14; omega))])); first | done | rfl⟩)))))))⟩
            · skip
              replace c12 := hid c12
              refine go_retq PM157 (k := 1) (r := some (.inl 25)) (w1 := (SH, dt)) rfl ?_
              exact ⟨rfl, (Or.inr (Or.inr (Or.inr (Or.inr (Or.inr (Or.inl ⟨rfl, by show wi [am_Sby.getD 3 [], am_Sby.getD 4 [], am_Sby.getD 5 [], am_Sby.getD 6 [], am_Sby.getD 7 [], am_Sby.getD 8 [], am_Sby.getD 9 [], am_Sby.getD 10 [], am_Sby.getD 11 []] _ _ _ _ = _; (repeat (first | rw [wi_n (by omega)] | rw [wi_h (by (have z0_ := unhid c12; omega))])); first | done | rfl⟩))))))⟩
          · skip
            replace c10 := hid c10
            refine go_retq PM157 (k := 1) (r := some (.inl 24)) (w1 := (SH, dt)) rfl ?_
            exact ⟨rfl, (Or.inr (Or.inr (Or.inr (Or.inr (Or.inl ⟨rfl, by show wi [am_Sby.getD 3 [], am_Sby.getD 4 [], am_Sby.getD 5 [], am_Sby.getD 6 [], am_Sby.getD 7 [], am_Sby.getD 8 [], am_Sby.getD 9 [], am_Sby.getD 10 [], am_Sby.getD 11 []] _ _ _ _ = _; (repeat (first | rw [wi_n (by omega)] | rw [wi_h (by (have z0_ := unhid c10; omega))])); first | done | rfl⟩)))))⟩
        · skip
          replace c8 := hid c8
          refine go_retq PM157 (k := 1) (r := some (.inl 23)) (w1 := (SH, dt)) rfl ?_
          exact ⟨rfl, (Or.inr (Or.inr (Or.inr (Or.inl ⟨rfl, by show wi [am_Sby.getD 3 [], am_Sby.getD 4 [], am_Sby.getD 5 [], am_Sby.getD 6 [], am_Sby.getD 7 [], am_Sby.getD 8 [], am_Sby.getD 9 [], am_Sby.getD 10 [], am_Sby.getD 11 []] _ _ _ _ = _; (repeat (first | rw [wi_n (by omega)] | rw [wi_h (by (have z0_ := unhid c8; omega))])); first | done | rfl⟩))))⟩
      · skip
        replace c6 := hid c6
        refine go_retq PM157 (k := 1) (r := some (.inl 22)) (w1 := (SH, dt)) rfl ?_
        exact ⟨rfl, (Or.inr (Or.inr (Or.inl ⟨rfl, by show wi [am_Sby.getD 3 [], am_Sby.getD 4 [], am_Sby.getD 5 [], am_Sby.getD 6 [], am_Sby.getD 7 [], am_Sby.getD 8 [], am_Sby.getD 9 [], am_Sby.getD 10 [], am_Sby.getD 11 []] _ _ _ _ = _; (repeat (first | rw [wi_n (by omega)] | rw [wi_h (by (have z0_ := unhid c6; omega))])); first | done | rfl⟩)))⟩
    · skip
      replace c4 := hid c4
      refine go_retq PM157 (k := 1) (r := some (.inl 21)) (w1 := (SH, dt)) rfl ?_
      exact ⟨rfl, (Or.inr (Or.inl ⟨rfl, by show wi [am_Sby.getD 3 [], am_Sby.getD 4 [], am_Sby.getD 5 [], am_Sby.getD 6 [], am_Sby.getD 7 [], am_Sby.getD 8 [], am_Sby.getD 9 [], am_Sby.getD 10 [], am_Sby.getD 11 []] _ _ _ _ = _; (repeat (first | rw [wi_n (by omega)] | rw [wi_h (by (have z0_ := unhid c4; omega))])); first | done | rfl⟩))⟩
  · skip
    replace c2 := hid c2
    refine go_retq PM157 (k := 1) (r := some (.inl 20)) (w1 := (SH, dt)) rfl ?_
    exact ⟨rfl, (Or.inl ⟨rfl, by show wi [am_Sby.getD 3 [], am_Sby.getD 4 [], am_Sby.getD 5 [], am_Sby.getD 6 [], am_Sby.getD 7 [], am_Sby.getD 8 [], am_Sby.getD 9 [], am_Sby.getD 10 [], am_Sby.getD 11 []] _ _ _ _ = _; (repeat (first | rw [wi_n (by fail)] | rw [wi_h (by (have z0_ := unhid c2; omega))])); first | done | rfl⟩)⟩
set_option maxRecDepth 20000 in
theorem sp_X6_lawWord_f (L : Nat) (xs : Nat → Int32) (sio : Option Nat) (d : Nat) (dt : Nat → Nat → Int) (hI : InvC dt)   (h_p0 : dt 79 13 ≤ 500) (h_p1 : dt 79 15 ≤ dt 79 13) (h_p2 : dt 79 13 ≤ dt 79 12) : GO (am_XX L xs sio) (d + 5) 158 0 [some (.inr (.inr (some 79)))] [] (SH, dt) (fun r w2 => w2 = (SH, dt) ∧ ((r = some (.inl 7) ∧ (wi wL (mB (dt 85) (dt 79 12)) (dt 79 15).toNat (dt 79 13).toNat 0 = 0)) ∨ (r = some (.inl 8) ∧ (wi wL (mB (dt 85) (dt 79 12)) (dt 79 15).toNat (dt 79 13).toNat 0 = 1)) ∨ (r = some (.inl 3) ∧ (wi wL (mB (dt 85) (dt 79 12)) (dt 79 15).toNat (dt 79 13).toNat 0 = 2)) ∨ (r = some (.inl 4) ∧ (wi wL (mB (dt 85) (dt 79 12)) (dt 79 15).toNat (dt 79 13).toNat 0 = 3)) ∨ (r = some (.inl 5) ∧ (wi wL (mB (dt 85) (dt 79 12)) (dt 79 15).toNat (dt 79 13).toNat 0 = 4)) ∨ (r = some (.inl 6) ∧ (wi wL (mB (dt 85) (dt 79 12)) (dt 79 15).toNat (dt 79 13).toNat 0 = 5)) ∨ (r = some (.inl 41) ∧ (wi wL (mB (dt 85) (dt 79 12)) (dt 79 15).toNat (dt 79 13).toNat 0 = 6)) ∨ (r = some (.inl 42) ∧ (wi wL (mB (dt 85) (dt 79 12)) (dt 79 15).toNat (dt 79 13).toNat 0 = 7)) ∨ (r = some (.inl 43) ∧ (wi wL (mB (dt 85) (dt 79 12)) (dt 79 15).toNat (dt 79 13).toNat 0 = 8)) ∨ (r = some (.inl 44) ∧ (wi wL (mB (dt 85) (dt 79 12)) (dt 79 15).toNat (dt 79 13).toNat 0 = 9)) ∨ (r = some (.inl 45) ∧ (wi wL (mB (dt 85) (dt 79 12)) (dt 79 15).toNat (dt 79 13).toNat 0 = 10)) ∨ (r = some (.inl 46) ∧ (wi wL (mB (dt 85) (dt 79 12)) (dt 79 15).toNat (dt 79 13).toNat 0 = 11)) ∨ (r = some (.inl 1) ∧ (wi wL (mB (dt 85) (dt 79 12)) (dt 79 15).toNat (dt 79 13).toNat 0 = (-1))))) := by
  refine go_toq PM158 (k := 2) (pc' := 3) (L' := [some (.inr (.inr (some 79)))]) (st' := [.inr (.inr (some 1012)), .inr (.inr (some 79))]) (w' := (SH, dt)) rfl ?_
  refine go_callq PM158 PM156 (Q' := _) rfl rfl rfl rfl (sp_X6_is_12f L xs sio (d + 0) dt hI   (by first | exact True.intro | with_reducible assumption | rfl | fail | trivial) (by first | exact True.intro | with_reducible assumption | rfl | fail | trivial) (by first | exact True.intro | with_reducible assumption | rfl | fail | trivial)) ?_
  rintro _ _ ⟨rfl, h1⟩
  refine ⟨rfl, ?_⟩
  rcases h1 with ⟨v_h1, rfl, h1r, h1⟩
  refine go_ifq PM158 (k := 0) (p1 := 12) (p2 := 9) (L' := [some (.inr (.inr (some 79)))]) (st' := []) (w' := (SH, dt)) rfl (z_eq (a := v_h1) (by first | exact bnd h1r (by decide) (by decide) | exact ⟨by fail, by fail⟩)) (fun c2 => ?_) (fun c2 => ?_)
  · skip
    refine go_toq PM158 (k := 2) (pc' := 15) (L' := [some (.inr (.inr (some 79)))]) (st' := [.inr (.inr (some 1013)), .inr (.inr (some 79))]) (w' := (SH, dt)) rfl ?_
    refine go_callq PM158 PM156 (Q' := _) rfl rfl rfl rfl (sp_X6_is_13f L xs sio (d + 0) dt hI   (by first | exact True.intro | with_reducible assumption | rfl | fail | trivial) (by first | exact True.intro | with_reducible assumption | rfl | fail | trivial) (by first | exact True.intro | with_reducible assumption | rfl | fail | trivial)) ?_
    rintro _ _ ⟨rfl, h3⟩
    refine ⟨rfl, ?_⟩
    rcases h3 with ⟨v_h3, rfl, h3r, h3⟩
    refine go_ifq PM158 (k := 0) (p1 := 24) (p2 := 21) (L' := [some (.inr (.inr (some 79)))]) (st' := []) (w' := (SH, dt)) rfl (z_eq (a := v_h3) (by first | exact bnd h3r (by decide) (by decide) | exact ⟨by fail, by fail⟩)) (fun c4 => ?_) (fun c4 => ?_)
    · skip
      refine go_toq PM158 (k := 2) (pc' := 27) (L' := [some (.inr (.inr (some 79)))]) (st' := [.inr (.inr (some 1014)), .inr (.inr (some 79))]) (w' := (SH, dt)) rfl ?_
      refine go_callq PM158 PM156 (Q' := _) rfl rfl rfl rfl (sp_X6_is_14f L xs sio (d + 0) dt hI   (by first | exact True.intro | with_reducible assumption | rfl | fail | trivial) (by first | exact True.intro | with_reducible assumption | rfl | fail | trivial) (by first | exact True.intro | with_reducible assumption | rfl | fail | trivial)) ?_
      rintro _ _ ⟨rfl, h5⟩
      refine ⟨rfl, ?_⟩
      rcases h5 with ⟨v_h5, rfl, h5r, h5⟩
      refine go_ifq PM158 (k := 0) (p1 := 35) (p2 := 33) (L' := [some (.inr (.inr (some 79)))]) (st' := []) (w' := (SH, dt)) rfl (z_eq (a := v_h5) (by first | exact bnd h5r (by decide) (by decide) | exact ⟨by fail, by fail⟩)) (fun c6 => ?_) (fun c6 => ?_)
      · skip
        refine go_toq PM158 (k := 2) (pc' := 38) (L' := [some (.inr (.inr (some 79)))]) (st' := [.inr (.inr (some 1015)), .inr (.inr (some 79))]) (w' := (SH, dt)) rfl ?_
        refine go_callq PM158 PM156 (Q' := _) rfl rfl rfl rfl (sp_X6_is_15f L xs sio (d + 0) dt hI   (by first | exact True.intro | with_reducible assumption | rfl | fail | trivial) (by first | exact True.intro | with_reducible assumption | rfl | fail | trivial) (by first | exact True.intro | with_reducible assumption | rfl | fail | trivial)) ?_
        rintro _ _ ⟨rfl, h7⟩
        refine ⟨rfl, ?_⟩
        rcases h7 with ⟨v_h7, rfl, h7r, h7⟩
        refine go_ifq PM158 (k := 0) (p1 := 46) (p2 := 44) (L' := [some (.inr (.inr (some 79)))]) (st' := []) (w' := (SH, dt)) rfl (z_eq (a := v_h7) (by first | exact bnd h7r (by decide) (by decide) | exact ⟨by fail, by fail⟩)) (fun c8 => ?_) (fun c8 => ?_)
        · skip
          refine go_toq PM158 (k := 2) (pc' := 49) (L' := [some (.inr (.inr (some 79)))]) (st' := [.inr (.inr (some 1016)), .inr (.inr (some 79))]) (w' := (SH, dt)) rfl ?_
          refine go_callq PM158 PM156 (Q' := _) rfl rfl rfl rfl (sp_X6_is_16f L xs sio (d + 0) dt hI   (by first | exact True.intro | with_reducible assumption | rfl | fail | trivial) (by first | exact True.intro | with_reducible assumption | rfl | fail | trivial) (by first | exact True.intro | with_reducible assumption | rfl | fail | trivial)) ?_
          rintro _ _ ⟨rfl, h9⟩
          refine ⟨rfl, ?_⟩
          rcases h9 with ⟨v_h9, rfl, h9r, h9⟩
          refine go_ifq PM158 (k := 0) (p1 := 57) (p2 := 55) (L' := [some (.inr (.inr (some 79)))]) (st' := []) (w' := (SH, dt)) rfl (z_eq (a := v_h9) (by first | exact bnd h9r (by decide) (by decide) | exact ⟨by fail, by fail⟩)) (fun c10 => ?_) (fun c10 => ?_)
          · skip
            refine go_toq PM158 (k := 2) (pc' := 60) (L' := [some (.inr (.inr (some 79)))]) (st' := [.inr (.inr (some 1017)), .inr (.inr (some 79))]) (w' := (SH, dt)) rfl ?_
            refine go_callq PM158 PM156 (Q' := _) rfl rfl rfl rfl (sp_X6_is_17f L xs sio (d + 0) dt hI   (by first | exact True.intro | with_reducible assumption | rfl | fail | trivial) (by first | exact True.intro | with_reducible assumption | rfl | fail | trivial) (by first | exact True.intro | with_reducible assumption | rfl | fail | trivial)) ?_
            rintro _ _ ⟨rfl, h11⟩
            refine ⟨rfl, ?_⟩
            rcases h11 with ⟨v_h11, rfl, h11r, h11⟩
            refine go_ifq PM158 (k := 0) (p1 := 69) (p2 := 66) (L' := [some (.inr (.inr (some 79)))]) (st' := []) (w' := (SH, dt)) rfl (z_eq (a := v_h11) (by first | exact bnd h11r (by decide) (by decide) | exact ⟨by fail, by fail⟩)) (fun c12 => ?_) (fun c12 => ?_)
            · skip
              refine go_toq PM158 (k := 2) (pc' := 72) (L' := [some (.inr (.inr (some 79)))]) (st' := [.inr (.inr (some 1018)), .inr (.inr (some 79))]) (w' := (SH, dt)) rfl ?_
              refine go_callq PM158 PM156 (Q' := _) rfl rfl rfl rfl (sp_X6_is_18f L xs sio (d + 0) dt hI   (by first | exact True.intro | with_reducible assumption | rfl | fail | trivial) (by first | exact True.intro | with_reducible assumption | rfl | fail | trivial) (by first | exact True.intro | with_reducible assumption | rfl | fail | trivial)) ?_
              rintro _ _ ⟨rfl, h13⟩
              refine ⟨rfl, ?_⟩
              rcases h13 with ⟨v_h13, rfl, h13r, h13⟩
              refine go_ifq PM158 (k := 0) (p1 := 81) (p2 := 78) (L' := [some (.inr (.inr (some 79)))]) (st' := []) (w' := (SH, dt)) rfl (z_eq (a := v_h13) (by first | exact bnd h13r (by decide) (by decide) | exact ⟨by fail, by fail⟩)) (fun c14 => ?_) (fun c14 => ?_)
              · skip
                refine go_toq PM158 (k := 2) (pc' := 84) (L' := [some (.inr (.inr (some 79)))]) (st' := [.inr (.inr (some 1019)), .inr (.inr (some 79))]) (w' := (SH, dt)) rfl ?_
                refine go_callq PM158 PM156 (Q' := _) rfl rfl rfl rfl (sp_X6_is_19f L xs sio (d + 0) dt hI   (by first | exact True.intro | with_reducible assumption | rfl | fail | trivial) (by first | exact True.intro | with_reducible assumption | rfl | fail | trivial) (by first | exact True.intro | with_reducible assumption | rfl | fail | trivial)) ?_
                rintro _ _ ⟨rfl, h15⟩
                refine ⟨rfl, ?_⟩
                rcases h15 with ⟨v_h15, rfl, h15r, h15⟩
                refine go_ifq PM158 (k := 0) (p1 := 93) (p2 := 90) (L' := [some (.inr (.inr (some 79)))]) (st' := []) (w' := (SH, dt)) rfl (z_eq (a := v_h15) (by first | exact bnd h15r (by decide) (by decide) | exact ⟨by fail, by fail⟩)) (fun c16 => ?_) (fun c16 => ?_)
                · skip
                  refine go_toq PM158 (k := 2) (pc' := 96) (L' := [some (.inr (.inr (some 79)))]) (st' := [.inr (.inr (some 1020)), .inr (.inr (some 79))]) (w' := (SH, dt)) rfl ?_
                  refine go_callq PM158 PM156 (Q' := _) rfl rfl rfl rfl (sp_X6_is_20f L xs sio (d + 0) dt hI   (by first | exact True.intro | with_reducible assumption | rfl | fail | trivial) (by first | exact True.intro | with_reducible assumption | rfl | fail | trivial) (by first | exact True.intro | with_reducible assumption | rfl | fail | trivial)) ?_
                  rintro _ _ ⟨rfl, h17⟩
                  refine ⟨rfl, ?_⟩
                  rcases h17 with ⟨v_h17, rfl, h17r, h17⟩
                  refine go_ifq PM158 (k := 0) (p1 := 105) (p2 := 102) (L' := [some (.inr (.inr (some 79)))]) (st' := []) (w' := (SH, dt)) rfl (z_eq (a := v_h17) (by first | exact bnd h17r (by decide) (by decide) | exact ⟨by fail, by fail⟩)) (fun c18 => ?_) (fun c18 => ?_)
                  · skip
                    refine go_toq PM158 (k := 2) (pc' := 108) (L' := [some (.inr (.inr (some 79)))]) (st' := [.inr (.inr (some 1021)), .inr (.inr (some 79))]) (w' := (SH, dt)) rfl ?_
                    refine go_callq PM158 PM156 (Q' := _) rfl rfl rfl rfl (sp_X6_is_21f L xs sio (d + 0) dt hI   (by first | exact True.intro | with_reducible assumption | rfl | fail | trivial) (by first | exact True.intro | with_reducible assumption | rfl | fail | trivial) (by first | exact True.intro | with_reducible assumption | rfl | fail | trivial)) ?_
                    rintro _ _ ⟨rfl, h19⟩
                    refine ⟨rfl, ?_⟩
                    rcases h19 with ⟨v_h19, rfl, h19r, h19⟩
                    refine go_ifq PM158 (k := 0) (p1 := 117) (p2 := 114) (L' := [some (.inr (.inr (some 79)))]) (st' := []) (w' := (SH, dt)) rfl (z_eq (a := v_h19) (by first | exact bnd h19r (by decide) (by decide) | exact ⟨by fail, by fail⟩)) (fun c20 => ?_) (fun c20 => ?_)
                    · skip
                      refine go_toq PM158 (k := 2) (pc' := 120) (L' := [some (.inr (.inr (some 79)))]) (st' := [.inr (.inr (some 1022)), .inr (.inr (some 79))]) (w' := (SH, dt)) rfl ?_
                      refine go_callq PM158 PM156 (Q' := _) rfl rfl rfl rfl (sp_X6_is_22f L xs sio (d + 0) dt hI   (by first | exact True.intro | with_reducible assumption | rfl | fail | trivial) (by first | exact True.intro | with_reducible assumption | rfl | fail | trivial) (by first | exact True.intro | with_reducible assumption | rfl | fail | trivial)) ?_
                      rintro _ _ ⟨rfl, h21⟩
                      refine ⟨rfl, ?_⟩
                      rcases h21 with ⟨v_h21, rfl, h21r, h21⟩
                      refine go_ifq PM158 (k := 0) (p1 := 129) (p2 := 126) (L' := [some (.inr (.inr (some 79)))]) (st' := []) (w' := (SH, dt)) rfl (z_eq (a := v_h21) (by first | exact bnd h21r (by decide) (by decide) | exact ⟨by fail, by fail⟩)) (fun c22 => ?_) (fun c22 => ?_)
                      · skip
                        refine go_toq PM158 (k := 2) (pc' := 132) (L' := [some (.inr (.inr (some 79)))]) (st' := [.inr (.inr (some 1023)), .inr (.inr (some 79))]) (w' := (SH, dt)) rfl ?_
                        refine go_callq PM158 PM156 (Q' := _) rfl rfl rfl rfl (sp_X6_is_23f L xs sio (d + 0) dt hI   (by first | exact True.intro | with_reducible assumption | rfl | fail | trivial) (by first | exact True.intro | with_reducible assumption | rfl | fail | trivial) (by first | exact True.intro | with_reducible assumption | rfl | fail | trivial)) ?_
                        rintro _ _ ⟨rfl, h23⟩
                        refine ⟨rfl, ?_⟩
                        rcases h23 with ⟨v_h23, rfl, h23r, h23⟩
                        refine go_ifq PM158 (k := 0) (p1 := 143) (p2 := 138) (L' := [some (.inr (.inr (some 79)))]) (st' := []) (w' := (SH, dt)) rfl (z_eq (a := v_h23) (by first | exact bnd h23r (by decide) (by decide) | exact ⟨by fail, by fail⟩)) (fun c24 => ?_) (fun c24 => ?_)
                        · skip
                          refine go_retq PM158 (k := 1) (r := some (.inl 1)) (w1 := (SH, dt)) rfl ?_
                          exact ⟨rfl, (Or.inr (Or.inr (Or.inr (Or.inr (Or.inr (Or.inr (Or.inr (Or.inr (Or.inr (Or.inr (Or.inr (Or.inr ⟨rfl, by show wi [am_Sby.getD 12 [], am_Sby.getD 13 [], am_Sby.getD 14 [], am_Sby.getD 15 [], am_Sby.getD 16 [], am_Sby.getD 17 [], am_Sby.getD 18 [], am_Sby.getD 19 [], am_Sby.getD 20 [], am_Sby.getD 21 [], am_Sby.getD 22 [], am_Sby.getD 23 []] _ _ _ _ = _; (repeat (first | rw [wi_n (by omega)] | rw [wi_h (by fail)])); first | done | rfl⟩))))))))))))⟩
                        · skip
                          replace c24 := hid c24
                          refine go_retq PM158 (k := 2) (r := some (.inl 46)) (w1 := (SH, dt)) rfl ?_
                          exact ⟨rfl, (Or.inr (Or.inr (Or.inr (Or.inr (Or.inr (Or.inr (Or.inr (Or.inr (Or.inr (Or.inr (Or.inr (Or.inl ⟨rfl, by show wi [am_Sby.getD 12 [], am_Sby.getD 13 [], am_Sby.getD 14 [], am_Sby.getD 15 [], am_Sby.getD 16 [], am_Sby.getD 17 [], am_Sby.getD 18 [], am_Sby.getD 19 [], am_Sby.getD 20 [], am_Sby.getD 21 [], am_Sby.getD 22 [], am_Sby.getD 23 []] _ _ _ _ = _; (repeat (first | rw [wi_n (by omega)] | rw [wi_h (by (have z0_ := unhid c24; omega))])); first | done | rfl⟩))))))))))))⟩
                      · skip
                        replace c22 := hid c22
                        refine go_retq PM158 (k := 1) (r := some (.inl 45)) (w1 := (SH, dt)) rfl ?_
                        exact ⟨rfl, (Or.inr (Or.inr (Or.inr (Or.inr (Or.inr (Or.inr (Or.inr (Or.inr (Or.inr (Or.inr (Or.inl ⟨rfl, by show wi [am_Sby.getD 12 [], am_Sby.getD 13 [], am_Sby.getD 14 [], am_Sby.getD 15 [], am_Sby.getD 16 [], am_Sby.getD 17 [], am_Sby.getD 18 [], am_Sby.getD 19 [], am_Sby.getD 20 [], am_Sby.getD 21 [], am_Sby.getD 22 [], am_Sby.getD 23 []] _ _ _ _ = _; (repeat (first | rw [wi_n (by omega)] | rw [wi_h (by (have z0_ := unhid c22; omega))])); first | done | rfl⟩)))))))))))⟩
                    · skip
                      replace c20 := hid c20
                      refine go_retq PM158 (k := 1) (r := some (.inl 44)) (w1 := (SH, dt)) rfl ?_
                      exact ⟨rfl, (Or.inr (Or.inr (Or.inr (Or.inr (Or.inr (Or.inr (Or.inr (Or.inr (Or.inr (Or.inl ⟨rfl, by show wi [am_Sby.getD 12 [], am_Sby.getD 13 [], am_Sby.getD 14 [], am_Sby.getD 15 [], am_Sby.getD 16 [], am_Sby.getD 17 [], am_Sby.getD 18 [], am_Sby.getD 19 [], am_Sby.getD 20 [], am_Sby.getD 21 [], am_Sby.getD 22 [], am_Sby.getD 23 []] _ _ _ _ = _; (repeat (first | rw [wi_n (by omega)] | rw [wi_h (by (have z0_ := unhid c20; omega))])); first | done | rfl⟩))))))))))⟩
                  · skip
                    replace c18 := hid c18
                    refine go_retq PM158 (k := 1) (r := some (.inl 43)) (w1 := (SH, dt)) rfl ?_
                    exact ⟨rfl, (Or.inr (Or.inr (Or.inr (Or.inr (Or.inr (Or.inr (Or.inr (Or.inr (Or.inl ⟨rfl, by show wi [am_Sby.getD 12 [], am_Sby.getD 13 [], am_Sby.getD 14 [], am_Sby.getD 15 [], am_Sby.getD 16 [], am_Sby.getD 17 [], am_Sby.getD 18 [], am_Sby.getD 19 [], am_Sby.getD 20 [], am_Sby.getD 21 [], am_Sby.getD 22 [], am_Sby.getD 23 []] _ _ _ _ = _; (repeat (first | rw [wi_n (by omega)] | rw [wi_h (by (have z0_ := unhid c18; omega))])); first | done | rfl⟩)))))))))⟩
                · skip
                  replace c16 := hid c16
                  refine go_retq PM158 (k := 1) (r := some (.inl 42)) (w1 := (SH, dt)) rfl ?_
                  exact ⟨rfl, (Or.inr (Or.inr (Or.inr (Or.inr (Or.inr (Or.inr (Or.inr (Or.inl ⟨rfl, by show wi [am_Sby.getD 12 [], am_Sby.getD 13 [], am_Sby.getD 14 [], am_Sby.getD 15 [], am_Sby.getD 16 [], am_Sby.getD 17 [], am_Sby.getD 18 [], am_Sby.getD 19 [], am_Sby.getD 20 [], am_Sby.getD 21 [], am_Sby.getD 22 [], am_Sby.getD 23 []] _ _ _ _ = _; (repeat (first | rw [wi_n (by omega)] | rw [wi_h (by (have z0_ := unhid c16; omega))])); first | done | rfl⟩))))))))⟩
              · skip
                replace c14 := hid c14
                refine go_retq PM158 (k := 1) (r := some (.inl 41)) (w1 := (SH, dt)) rfl ?_
                exact ⟨rfl, (Or.inr (Or.inr (Or.inr (Or.inr (Or.inr (Or.inr (Or.inl ⟨rfl, by show wi [am_Sby.getD 12 [], am_Sby.getD 13 [], am_Sby.getD 14 [], am_Sby.getD 15 [], am_Sby.getD 16 [], am_Sby.getD 17 [], am_Sby.getD 18 [], am_Sby.getD 19 [], am_Sby.getD 20 [], am_Sby.getD 21 [], am_Sby.getD 22 [], am_Sby.getD 23 []] _ _ _ _ = _; (repeat (first | rw [wi_n (by omega)] | rw [wi_h (by (have z0_ := unhid c14; omega))])); first | done | rfl⟩)))))))⟩
            · skip
              replace c12 := hid c12
              refine go_retq PM158 (k := 1) (r := some (.inl 6)) (w1 := (SH, dt)) rfl ?_
              exact ⟨rfl, (Or.inr (Or.inr (Or.inr (Or.inr (Or.inr (Or.inl ⟨rfl, by show wi [am_Sby.getD 12 [], am_Sby.getD 13 [], am_Sby.getD 14 [], am_Sby.getD 15 [], am_Sby.getD 16 [], am_Sby.getD 17 [], am_Sby.getD 18 [], am_Sby.getD 19 [], am_Sby.getD 20 [], am_Sby.getD 21 [], am_Sby.getD 22 [], am_Sby.getD 23 []] _ _ _ _ = _; (repeat (first | rw [wi_n (by omega)] | rw [wi_h (by (have z0_ := unhid c12; omega))])); first | done | rfl⟩))))))⟩
          · skip
            replace c10 := hid c10
            refine go_retq PM158 (k := 1) (r := some (.inl 5)) (w1 := (SH, dt)) rfl ?_
            exact ⟨rfl, (Or.inr (Or.inr (Or.inr (Or.inr (Or.inl ⟨rfl, by show wi [am_Sby.getD 12 [], am_Sby.getD 13 [], am_Sby.getD 14 [], am_Sby.getD 15 [], am_Sby.getD 16 [], am_Sby.getD 17 [], am_Sby.getD 18 [], am_Sby.getD 19 [], am_Sby.getD 20 [], am_Sby.getD 21 [], am_Sby.getD 22 [], am_Sby.getD 23 []] _ _ _ _ = _; (repeat (first | rw [wi_n (by omega)] | rw [wi_h (by (have z0_ := unhid c10; omega))])); first | done | rfl⟩)))))⟩
        · skip
          replace c8 := hid c8
          refine go_retq PM158 (k := 1) (r := some (.inl 4)) (w1 := (SH, dt)) rfl ?_
          exact ⟨rfl, (Or.inr (Or.inr (Or.inr (Or.inl ⟨rfl, by show wi [am_Sby.getD 12 [], am_Sby.getD 13 [], am_Sby.getD 14 [], am_Sby.getD 15 [], am_Sby.getD 16 [], am_Sby.getD 17 [], am_Sby.getD 18 [], am_Sby.getD 19 [], am_Sby.getD 20 [], am_Sby.getD 21 [], am_Sby.getD 22 [], am_Sby.getD 23 []] _ _ _ _ = _; (repeat (first | rw [wi_n (by omega)] | rw [wi_h (by (have z0_ := unhid c8; omega))])); first | done | rfl⟩))))⟩
      · skip
        replace c6 := hid c6
        refine go_retq PM158 (k := 1) (r := some (.inl 3)) (w1 := (SH, dt)) rfl ?_
        exact ⟨rfl, (Or.inr (Or.inr (Or.inl ⟨rfl, by show wi [am_Sby.getD 12 [], am_Sby.getD 13 [], am_Sby.getD 14 [], am_Sby.getD 15 [], am_Sby.getD 16 [], am_Sby.getD 17 [], am_Sby.getD 18 [], am_Sby.getD 19 [], am_Sby.getD 20 [], am_Sby.getD 21 [], am_Sby.getD 22 [], am_Sby.getD 23 []] _ _ _ _ = _; (repeat (first | rw [wi_n (by omega)] | rw [wi_h (by (have z0_ := unhid c6; omega))])); first | done | rfl⟩)))⟩
    · skip
      replace c4 := hid c4
      refine go_retq PM158 (k := 1) (r := some (.inl 8)) (w1 := (SH, dt)) rfl ?_
      exact ⟨rfl, (Or.inr (Or.inl ⟨rfl, by show wi [am_Sby.getD 12 [], am_Sby.getD 13 [], am_Sby.getD 14 [], am_Sby.getD 15 [], am_Sby.getD 16 [], am_Sby.getD 17 [], am_Sby.getD 18 [], am_Sby.getD 19 [], am_Sby.getD 20 [], am_Sby.getD 21 [], am_Sby.getD 22 [], am_Sby.getD 23 []] _ _ _ _ = _; (repeat (first | rw [wi_n (by omega)] | rw [wi_h (by (have z0_ := unhid c4; omega))])); first | done | rfl⟩))⟩
  · skip
    replace c2 := hid c2
    refine go_retq PM158 (k := 1) (r := some (.inl 7)) (w1 := (SH, dt)) rfl ?_
    exact ⟨rfl, (Or.inl ⟨rfl, by show wi [am_Sby.getD 12 [], am_Sby.getD 13 [], am_Sby.getD 14 [], am_Sby.getD 15 [], am_Sby.getD 16 [], am_Sby.getD 17 [], am_Sby.getD 18 [], am_Sby.getD 19 [], am_Sby.getD 20 [], am_Sby.getD 21 [], am_Sby.getD 22 [], am_Sby.getD 23 []] _ _ _ _ = _; (repeat (first | rw [wi_n (by fail)] | rw [wi_h (by (have z0_ := unhid c2; omega))])); first | done | rfl⟩)⟩
