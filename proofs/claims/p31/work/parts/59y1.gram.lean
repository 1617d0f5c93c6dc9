set_option maxHeartbeats 1500000 in
set_option maxRecDepth 20000 in
theorem lv_X6_every_g (L : Nat) (xs : Nat → Int32) (sio : Option Nat) (d : Nat) (dt : Nat → Nat → Int) (hI : InvC dt) (b : Nat → Int) (n t i : Nat) (hbb : mB (dt 85) (dt 79 12) = b) (hnn : dt 79 12 = (n : Int)) (hz : KZ (KF 1 b n) t) (ht : t ≤ 500) (hc : CUR 1 b n dt i) (hi : i ≤ t) (hn5 : n ≤ 500) (j : Nat) (IH_X6_one : ∀ (L : Nat) (xs : Nat → Int32) (sio : Option Nat) (d : Nat) (dt : Nat → Nat → Int) (hI : InvC dt) (b : Nat → Int) (n t i : Nat) (hbb : mB (dt 85) (dt 79 12) = b) (hnn : dt 79 12 = (n : Int)) (hz : KZ (KF 1 b n) t) (ht : t ≤ 500) (hc : CUR 1 b n dt i) (hi : i ≤ t) (hn5 : n ≤ 500) (h_p0 : dt 79 9 = 1) (h_p1 : dt 79 11 ≤ dt 79 15) (h_p2 : dt 79 20 + ((j : Nat) : Int) = 8) (h_p3 : 3 * j ≤ d), GO (am_XX L xs sio) (d + 10) 170 0 [some (.inr (.inr (some 79))), none] [] (SH, dt) (fun r w2 => ∃ dt2 : Nat → Nat → Int, w2 = (SH, dt2) ∧ InvC dt2 ∧ Fr [79, 84] dt dt2 ∧ ((r = some (.inl 0) ∧ (RSX 1 b n i dt2 0 ((gC (KF 1 b n) (VF b n) j) i)) ∧ (dt2 79 2 = dt 79 2) ∧ (dt2 79 9 = dt 79 9) ∧ (dt2 79 10 = dt 79 10) ∧ (dt2 79 12 = dt 79 12)) ∨ (r = some (.inl 1) ∧ (RSX 1 b n i dt2 1 ((gC (KF 1 b n) (VF b n) j) i)) ∧ (dt 79 15 + dt2 79 11 ≤ dt2 79 15 + dt 79 11) ∧ (dt 79 11 + 1 ≤ dt2 79 11) ∧ (dt2 79 15 ≤ 500) ∧ (RXD dt dt2 ((rC (KF 1 b n) (VF b n) j) i)) ∧ (dt2 79 2 = dt 79 2) ∧ (dt2 79 9 = dt 79 9) ∧ (dt2 79 10 = dt 79 10) ∧ (dt2 79 12 = dt 79 12) ∧ (dt2 79 17 = dt 79 17) ∧ (dt2 79 20 = dt 79 20)))))   (h_p0 : dt 79 9 = 1) (h_p1 : dt 79 11 ≤ dt 79 15) (h_p2 : dt 79 20 + ((j : Nat) : Int) = 8) (h_p3 : 3 * j ≤ d) : GO (am_XX L xs sio) (d + 11) 169 0 [some (.inr (.inr (some 79)))] [] (SH, dt) (fun r w2 => ∃ dt2 : Nat → Nat → Int, w2 = (SH, dt2) ∧ InvC dt2 ∧ Fr [79, 84] dt dt2 ∧ ((r = some (.inl 0) ∧ (RSX 1 b n i dt2 0 ((gEv (KF 1 b n) (VF b n) j) i)) ∧ (dt2 79 2 = dt 79 2) ∧ (dt2 79 9 = dt 79 9) ∧ (dt2 79 10 = dt 79 10) ∧ (dt2 79 12 = dt 79 12)) ∨ (r = some (.inl 1) ∧ (RSX 1 b n i dt2 1 ((gEv (KF 1 b n) (VF b n) j) i)) ∧ (dt 79 15 + dt2 79 11 ≤ dt2 79 15 + dt 79 11) ∧ (dt 79 11 + 1 ≤ dt2 79 11) ∧ (dt2 79 15 ≤ 500) ∧ (RXD dt dt2 ((rEv (KF 1 b n) (rC (KF 1 b n) (VF b n) j) (gC (KF 1 b n) (VF b n) j)) i)) ∧ (dt2 79 2 = dt 79 2) ∧ (dt2 79 9 = dt 79 9) ∧ (dt2 79 10 = dt 79 10) ∧ (dt2 79 12 = dt 79 12) ∧ (dt2 79 17 = dt 79 17) ∧ (dt2 79 20 = dt 79 20)))) := by
  have hF : Fr [79, 84] dt dt := Fr_refl
  have r1 : 0 ≤ dt 79 15 ∧ dt 79 15 ≤ 500 := InvC_get hI 79 15 rfl rfl
  have r2 : 0 ≤ dt 79 11 ∧ dt 79 11 ≤ 510 := InvC_get hI 79 11 rfl rfl
  have r3 : 0 ≤ dt 79 10 ∧ dt 79 10 ≤ 24 := InvC_get hI 79 10 rfl rfl
  have r4 : 0 ≤ dt 79 20 ∧ dt 79 20 ≤ 8 := InvC_get hI 79 20 rfl rfl
  have cr0 := hid (CUR_R hc (.inr rfl))
  have cd0 := CUR_d (hc)
  have cb0 := hid (CUR_b hc)
  have cv0 := hid (CUR_v hc)
  have ck0 := hid (KZ_lt (i := i) hz)
  have c10 := hc.1
  refine go_toq PM169 (k := 1) (pc' := 1) (L' := [some (.inr (.inr (some 79)))]) (st' := [.inr (.inr (some 79))]) (w' := (SH, dt)) rfl ?_
  refine go_callq PM169 PM170 (Q' := _) rfl rfl rfl rfl (IH_X6_one L xs sio (d + 0) dt hI b n t i (by first | exact hbb | (rw [show dt 85 = dt 85 from funext (hF 85 (by decide)), show dt 79 12 = dt 79 12 by first | with_reducible assumption | exact unhid (by with_reducible assumption) | fail]; exact hbb)) (by first | with_reducible assumption | exact unhid (by with_reducible assumption) | exact Eq.trans (by with_reducible assumption) hnn | fail) hz ht hc hi hn5  (by first | exact True.intro | with_reducible assumption | exact unhid (by with_reducible assumption) | rfl | fail | trivial) (by first | exact True.intro | with_reducible assumption | exact unhid (by with_reducible assumption) | rfl | fail | trivial) (by first | exact True.intro | with_reducible assumption | exact unhid (by with_reducible assumption) | rfl | fail | trivial) (by first | exact True.intro | with_reducible assumption | exact unhid (by with_reducible assumption) | rfl | omega | trivial)) ?_
  rintro _ _ ⟨dt6, rfl, hI7, hF8, h5⟩
  refine ⟨rfl, ?_⟩
  have hF9 : Fr [79, 84] dt dt6 := Fr_tr hF hF8 (by decide)
  rcases h5 with ⟨rfl, h5⟩ | ⟨rfl, h5⟩
  · skip
    obtain ⟨h5_0, h5_1, h5_2, h5_3, h5_4⟩ := h5
    have w10 : dt6 79 2 = dt 79 2 := h5_1
    have w11 : dt6 79 9 = dt 79 9 := h5_2
    have w12 : dt6 79 10 = dt 79 10 := h5_3
    have w13 : dt6 79 12 = dt 79 12 := h5_4
    have fl14 := RSX_0 h5_0 rfl
    have fe15 : (gEv (KF 1 b n) (VF b n) j) i = (gC (KF 1 b n) (VF b n) j) i := (rfl : (gEv (KF 1 b n) (VF b n) j) i = (gEv (KF 1 b n) (VF b n) j) i).trans ((show (gEv (KF 1 b n) (VF b n) j) i = gB ((gC (KF 1 b n) (VF b n) j) i) (gN (KF 1 b n) (gC (KF 1 b n) (VF b n) j) 600) by rfl).trans (gB_no fl14.1))
    clear h5_1 h5_2 h5_3 h5_4
    refine go_retq PM169 (k := 2) (r := some (.inl 0)) (w1 := (SH, dt6)) rfl ?_
    exact ⟨dt6, rfl, hI7, hF9, (Or.inl ⟨rfl, ⟨by exact RSX_f fe15 fl14 (by first | rfl | with_reducible assumption | exact unhid (by with_reducible assumption) | fail) (by first | rfl | with_reducible assumption | exact unhid (by with_reducible assumption) | fail), by first | exact True.intro | with_reducible assumption | exact unhid (by with_reducible assumption) | rfl | fail | trivial, by first | exact True.intro | with_reducible assumption | exact unhid (by with_reducible assumption) | rfl | fail | trivial, by first | exact True.intro | with_reducible assumption | exact unhid (by with_reducible assumption) | rfl | fail | trivial, by first | exact True.intro | with_reducible assumption | exact unhid (by with_reducible assumption) | rfl | fail | trivial⟩⟩)⟩
  · skip
    obtain ⟨h5_0, h5_1, h5_2, h5_3, h5_4, h5_5, h5_6, h5_7, h5_8, h5_9, h5_10⟩ := h5
    have w16 : dt6 79 2 = dt 79 2 := h5_5
    have w17 : dt6 79 9 = dt 79 9 := h5_6
    have w18 : dt6 79 10 = dt 79 10 := h5_7
    have w19 : dt6 79 12 = dt 79 12 := h5_8
    have w20 : dt6 79 17 = dt 79 17 := h5_9
    have w21 : dt6 79 20 = dt 79 20 := h5_10
    obtain ⟨j22, ej23, hc24⟩ := RSX_1 h5_0 (by decide)
    have hp25 : (gEv (KF 1 b n) (VF b n) j) i = (gN (KF 1 b n) (gC (KF 1 b n) (VF b n) j) 600) j22 := (rfl : (gEv (KF 1 b n) (VF b n) j) i = (gEv (KF 1 b n) (VF b n) j) i).trans ((show (gEv (KF 1 b n) (VF b n) j) i = gB ((gC (KF 1 b n) (VF b n) j) i) (gN (KF 1 b n) (gC (KF 1 b n) (VF b n) j) 600) by rfl).trans (by rw [ej23]; exact gB_0))
    have hi26 : j22 ≤ t := by have z := (fun (h : KZ (KF 1 b n) t) => gC_M (K := (KF 1 b n)) (V := (VF b n)) h j i) hz; rw [ej23] at z; have y := z rfl; simp only at y; omega
    have Q27 : RQ (rEv (KF 1 b n) (rC (KF 1 b n) (VF b n) j) (gC (KF 1 b n) (VF b n) j)) (rN (KF 1 b n) (rC (KF 1 b n) (VF b n) j) (gC (KF 1 b n) (VF b n) j) 600) dt dt6 i j22 := RQ_st RQ_0 (by omega) h5_4 (by show _ ++ rN _ _ _ 600 (gC _ _ _ i).2 = _; rw [ej23])
    clear cr0 cb0 cd0 cv0 ck0
    have cr28 := hid (CUR_R hc24 (.inr rfl))
    have cd29 := CUR_d (hc24)
    have cb29 := hid (CUR_b hc24)
    have cv30 := hid (CUR_v hc24)
    have ck31 := hid (KZ_lt (i := j22) hz)
    have c132 := (hc24).1
    have ci33 := hi26
    clear h5_5 h5_6 h5_7 h5_8 h5_9 h5_10
    refine go_toq PM169 (k := 1) (pc' := 9) (L' := [some (.inr (.inr (some 79)))]) (st' := []) (w' := (SH, dt6)) rfl ?_
    have loop120 : ∀ (k_ : Nat) (dt107 : Nat → Nat → Int) (hI108 : InvC dt107) (hF109 : Fr [79, 84] dt dt107) (i110 : ∃ q : Nat, (gEv (KF 1 b n) (VF b n) j) i = (gN (KF 1 b n) (gC (KF 1 b n) (VF b n) j) 600) q ∧ CUR 1 b n dt107 q ∧ q ≤ t ∧ RQ (rEv (KF 1 b n) (rC (KF 1 b n) (VF b n) j) (gC (KF 1 b n) (VF b n) j)) (rN (KF 1 b n) (rC (KF 1 b n) (VF b n) j) (gC (KF 1 b n) (VF b n) j) 600) dt dt107 i q) (i111 : dt 79 15 + dt107 79 11 ≤ dt107 79 15 + dt 79 11) (i112 : dt 79 11 + 1 ≤ dt107 79 11) (i113 : dt107 79 15 ≤ 500) (i114 : dt107 79 2 = dt 79 2) (i115 : dt107 79 9 = dt 79 9) (i116 : dt107 79 10 = dt 79 10) (i117 : dt107 79 12 = dt 79 12) (i118 : dt107 79 17 = dt 79 17) (i119 : dt107 79 20 = dt 79 20), (502 - dt107 79 15).toNat < k_ → GO (am_XX L xs sio) (d + 11) 169 9 [some (.inr (.inr (some 79)))] [] (SH, dt107) (fun r w2 => ∃ dt2 : Nat → Nat → Int, w2 = (SH, dt2) ∧ InvC dt2 ∧ Fr [79, 84] dt dt2 ∧ ((r = some (.inl 0) ∧ (RSX 1 b n i dt2 0 ((gEv (KF 1 b n) (VF b n) j) i)) ∧ (dt2 79 2 = dt 79 2) ∧ (dt2 79 9 = dt 79 9) ∧ (dt2 79 10 = dt 79 10) ∧ (dt2 79 12 = dt 79 12)) ∨ (r = some (.inl 1) ∧ (RSX 1 b n i dt2 1 ((gEv (KF 1 b n) (VF b n) j) i)) ∧ (dt 79 15 + dt2 79 11 ≤ dt2 79 15 + dt 79 11) ∧ (dt 79 11 + 1 ≤ dt2 79 11) ∧ (dt2 79 15 ≤ 500) ∧ (RXD dt dt2 ((rEv (KF 1 b n) (rC (KF 1 b n) (VF b n) j) (gC (KF 1 b n) (VF b n) j)) i)) ∧ (dt2 79 2 = dt 79 2) ∧ (dt2 79 9 = dt 79 9) ∧ (dt2 79 10 = dt 79 10) ∧ (dt2 79 12 = dt 79 12) ∧ (dt2 79 17 = dt 79 17) ∧ (dt2 79 20 = dt 79 20)))) := by
      intro k_
      induction k_ with
      | zero => intro dt107 hI108 hF109 i110 i111 i112 i113 i114 i115 i116 i117 i118 i119 hm; exact absurd hm (Nat.not_lt_zero _)
      | succ k_ ih_loop120 =>
        intro dt107 hI108 hF109 i110 i111 i112 i113 i114 i115 i116 i117 i118 i119 hm
        clear cr28 cb29 cd29 cv30 ck31
        obtain ⟨gq, hpq, hcq, hiq, hQq⟩ := i110
        have crq := CUR_R hcq (.inr rfl)
        have cbq := CUR_b hcq
        have cvq := CUR_v hcq
        have ckq := KZ_lt (i := gq) hz
        have c1q := hcq.1
        have r121 : (-2147483648) ≤ dt107 79 14 ∧ dt107 79 14 ≤ 2147483647 := InvC_get hI108 79 14 rfl rfl
        refine go_ifq PM169 (k := 3) (p1 := 40) (p2 := 17) (L' := [some (.inr (.inr (some 79)))]) (st' := []) (w' := (SH, dt107)) rfl (c_ne (a := dt107 79 14) (b := 5) (by first | exact bnd r121 (by decide) (by decide) | exact ⟨by fail, by fail⟩) ⟨by decide, by decide⟩) (fun c122 => ?_) (fun c122 => ?_)
        · skip
          replace c122 := hid c122
          refine go_retq PM169 (k := 1) (r := some (.inl 1)) (w1 := (SH, dt107)) rfl ?_
          exact ⟨dt107, rfl, hI108, hF109, (Or.inr ⟨rfl, ⟨by exact RSX_ok (hpq.trans (by show gN _ _ 600 gq = _; rw [gN_u (gC_M hz _) (by omega) (by omega), if_neg (by (have z_ := unhid c122; omega))])) hcq, by first | exact True.intro | with_reducible assumption | exact unhid (by with_reducible assumption) | rfl | fail | trivial, by first | exact True.intro | with_reducible assumption | exact unhid (by with_reducible assumption) | rfl | fail | trivial, by exact (InvC_get (by assumption) 79 15 rfl rfl).2, by exact RQ_e (RQ_g hQq (by rw [rN_u (gC_M hz _) (by omega), if_neg (fun z_ => by (have z_ := unhid c122; omega))]; rfl)), by first | exact True.intro | with_reducible assumption | exact unhid (by with_reducible assumption) | rfl | fail | trivial, by first | exact True.intro | with_reducible assumption | exact unhid (by with_reducible assumption) | rfl | fail | trivial, by first | exact True.intro | with_reducible assumption | exact unhid (by with_reducible assumption) | rfl | fail | trivial, by first | exact True.intro | with_reducible assumption | exact unhid (by with_reducible assumption) | rfl | fail | trivial, by first | exact True.intro | with_reducible assumption | exact unhid (by with_reducible assumption) | rfl | fail | trivial, by first | exact True.intro | with_reducible assumption | exact unhid (by with_reducible assumption) | rfl | fail | trivial⟩⟩)⟩
        · skip
          refine go_toq PM169 (k := 1) (pc' := 18) (L' := [some (.inr (.inr (some 79)))]) (st' := [.inr (.inr (some 79))]) (w' := (SH, dt107)) rfl ?_
          refine go_callq PM169 PM159 (Q' := _) rfl rfl rfl rfl (sp_X6_next0_p1 L xs sio (d + 4) dt107 hI108   (by first | exact True.intro | with_reducible assumption | rfl | omega | trivial) (by first | exact True.intro | with_reducible assumption | rfl | omega | trivial)) ?_
          rintro _ _ ⟨dt124, rfl, hI125, hF126, h123⟩
          refine ⟨rfl, ?_⟩
          have hF127 : Fr [79, 84] dt dt124 := Fr_tr hF109 hF126 (by decide)
          rcases h123 with ⟨rfl, h123⟩
          obtain ⟨h123_0, h123_1, h123_2, h123_3, h123_4, h123_5, h123_6, h123_7, h123_8⟩ := h123
          have w128 : dt124 79 2 = dt107 79 2 := h123_2
          have w129 : dt124 79 9 = dt107 79 9 := h123_3
          have w130 : dt124 79 10 = dt107 79 10 := h123_4
          have w131 : dt124 79 11 = dt107 79 11 := h123_5
          have w132 : dt124 79 12 = dt107 79 12 := h123_6
          have w133 : dt124 79 17 = dt107 79 17 := h123_7
          have w134 : dt124 79 20 = dt107 79 20 := h123_8
          have hq135 := h123_0
          rw [show dt107 85 = dt 85 from funext (hF109 85 (by decide)), show dt107 79 12 = dt 79 12 by first | with_reducible assumption | fail, hbb, show (dt 79 12).toNat = n from (congrArg Int.toNat hnn).trans (Int.toNat_natCast n)] at hq135
          have hc136 : CUR 1 b n dt124 (gq + 1) := CUR_n hcq hq135
          have hi137 : gq + 1 ≤ t := by omega
          have av138 : dt107 79 15 + 1 ≤ dt107 79 13 := by omega
          have kk_139 : KF 1 b n gq = 1004 := by omega
          have hp140 : (gEv (KF 1 b n) (VF b n) j) i = (fun i => gB (gC (KF 1 b n) (VF b n) j i) (gN (KF 1 b n) (gC (KF 1 b n) (VF b n) j) 600)) (gq + 1) := hpq.trans (by show gN _ _ 600 gq = _; rw [gN_u (gC_M hz _) (by omega) (by omega)]; first | (rw [if_pos (by omega)]; done) | (rw [if_pos (by fail)]; rfl))
          clear crq cbq cvq ckq
          have cr141 := hid (CUR_R hc136 (.inr rfl))
          have cd142 := CUR_d (hc136)
          have cb142 := hid (CUR_b hc136)
          have cv143 := hid (CUR_v hc136)
          have ck144 := hid (KZ_lt (i := (gq + 1)) hz)
          have c1145 := (hc136).1
          have ci146 := hi137
          clear h123_2 h123_3 h123_4 h123_5 h123_6 h123_7 h123_8
          refine go_toq PM169 (k := 1) (pc' := 22) (L' := [some (.inr (.inr (some 79)))]) (st' := [.inr (.inr (some 79))]) (w' := (SH, dt124)) rfl ?_
          refine go_callq PM169 PM170 (Q' := _) rfl rfl rfl rfl (IH_X6_one L xs sio (d + 0) dt124 hI125 b n t (gq + 1) (by first | exact hbb | (rw [show dt124 85 = dt 85 from funext (hF127 85 (by decide)), show dt124 79 12 = dt 79 12 by first | with_reducible assumption | exact unhid (by with_reducible assumption) | omega]; exact hbb)) (by first | with_reducible assumption | exact unhid (by with_reducible assumption) | exact Eq.trans (by with_reducible assumption) hnn | omega) hz ht hc136 hi137 hn5  (by first | exact True.intro | with_reducible assumption | exact unhid (by with_reducible assumption) | rfl | omega | trivial) (by first | exact True.intro | with_reducible assumption | exact unhid (by with_reducible assumption) | rfl | omega | trivial) (by first | exact True.intro | with_reducible assumption | exact unhid (by with_reducible assumption) | rfl | omega | trivial) (by first | exact True.intro | with_reducible assumption | exact unhid (by with_reducible assumption) | rfl | omega | trivial)) ?_
          rintro _ _ ⟨dt148, rfl, hI149, hF150, h147⟩
          refine ⟨rfl, ?_⟩
          have hF151 : Fr [79, 84] dt dt148 := Fr_tr hF127 hF150 (by decide)
          rcases h147 with ⟨rfl, h147⟩ | ⟨rfl, h147⟩
          · skip
            obtain ⟨h147_0, h147_1, h147_2, h147_3, h147_4⟩ := h147
            have w152 : dt148 79 2 = dt107 79 2 := h147_1.trans w128
            have w153 : dt148 79 9 = dt107 79 9 := h147_2.trans w129
            have w154 : dt148 79 10 = dt107 79 10 := h147_3.trans w130
            have w155 : dt148 79 12 = dt107 79 12 := h147_4.trans w132
            have fl156 := RSX_0 h147_0 rfl
            have fe157 : (gEv (KF 1 b n) (VF b n) j) i = (gC (KF 1 b n) (VF b n) j) (gq + 1) := hp140.trans ((show (fun i => gB (gC (KF 1 b n) (VF b n) j i) (gN (KF 1 b n) (gC (KF 1 b n) (VF b n) j) 600)) (gq + 1) = gB ((gC (KF 1 b n) (VF b n) j) (gq + 1)) (gN (KF 1 b n) (gC (KF 1 b n) (VF b n) j) 600) by rfl).trans (gB_no fl156.1))
            clear h147_1 w128 h147_2 w129 h147_3 h147_4 w132
            refine go_retq PM169 (k := 2) (r := some (.inl 0)) (w1 := (SH, dt148)) rfl ?_
            exact ⟨dt148, rfl, hI149, hF151, (Or.inl ⟨rfl, ⟨by exact RSX_f fe157 fl156 (by first | rfl | with_reducible assumption | exact unhid (by with_reducible assumption) | fail) (by first | rfl | with_reducible assumption | exact unhid (by with_reducible assumption) | fail), by first | exact True.intro | with_reducible assumption | exact unhid (by with_reducible assumption) | rfl | omega | trivial, by first | exact True.intro | with_reducible assumption | exact unhid (by with_reducible assumption) | rfl | omega | trivial, by first | exact True.intro | with_reducible assumption | exact unhid (by with_reducible assumption) | rfl | omega | trivial, by first | exact True.intro | with_reducible assumption | exact unhid (by with_reducible assumption) | rfl | omega | trivial⟩⟩)⟩
          · skip
            obtain ⟨h147_0, h147_1, h147_2, h147_3, h147_4, h147_5, h147_6, h147_7, h147_8, h147_9, h147_10⟩ := h147
            have w158 : dt148 79 2 = dt107 79 2 := h147_5.trans w128
            have w159 : dt148 79 9 = dt107 79 9 := h147_6.trans w129
            have w160 : dt148 79 10 = dt107 79 10 := h147_7.trans w130
            have w161 : dt148 79 12 = dt107 79 12 := h147_8.trans w132
            have w162 : dt148 79 17 = dt107 79 17 := h147_9.trans w133
            have w163 : dt148 79 20 = dt107 79 20 := h147_10.trans w134
            obtain ⟨j164, ej165, hc166⟩ := RSX_1 h147_0 (by decide)
            have hp167 : (gEv (KF 1 b n) (VF b n) j) i = (gN (KF 1 b n) (gC (KF 1 b n) (VF b n) j) 600) j164 := hp140.trans ((show (fun i => gB (gC (KF 1 b n) (VF b n) j i) (gN (KF 1 b n) (gC (KF 1 b n) (VF b n) j) 600)) (gq + 1) = gB ((gC (KF 1 b n) (VF b n) j) (gq + 1)) (gN (KF 1 b n) (gC (KF 1 b n) (VF b n) j) 600) by rfl).trans (by rw [ej165]; exact gB_0))
            have hi168 : j164 ≤ t := by have z := (fun (h : KZ (KF 1 b n) t) => gC_M (K := (KF 1 b n)) (V := (VF b n)) h j (gq + 1)) hz; rw [ej165] at z; have y := z rfl; simp only at y; omega
            have Q169 : RQ (rEv (KF 1 b n) (rC (KF 1 b n) (VF b n) j) (gC (KF 1 b n) (VF b n) j)) (fun q_ => [-9] ++ (rN (KF 1 b n) (rC (KF 1 b n) (VF b n) j) (gC (KF 1 b n) (VF b n) j) 600) q_) dt dt148 i j164 := RQ_st hQq (by omega) (RXD_l (by omega) (fun j => hF126 84 (by decide) j) h147_4) (by rw [rN_u (gC_M hz _) (by omega), if_pos ⟨by omega, by rw [ej165]⟩, ej165])
            clear cr141 cb142 cd142 cv143 ck144
            have cr170 := hid (CUR_R hc166 (.inr rfl))
            have cd171 := CUR_d (hc166)
            have cb171 := hid (CUR_b hc166)
            have cv172 := hid (CUR_v hc166)
            have ck173 := hid (KZ_lt (i := j164) hz)
            have c1174 := (hc166).1
            have ci175 := hi168
            clear h147_5 w128 h147_6 w129 h147_7 h147_8 w132 h147_9 w133 h147_10 w134
            refine go_toq PM169 (k := 4) (pc' := 34) (L' := [some (.inr (.inr (some 79)))]) (st' := [.inl 0, .inl 15, .inr (.inr (some 79))]) (w' := (SH, dt148)) rfl ?_
            refine go_callq PM169 PM163 (Q' := _) rfl rfl rfl rfl (sp_X6_lay_g L xs sio (d + 10) dt148 hI149  15 ⟨by decide, by decide⟩ 0 ⟨by decide, by decide⟩ (by first | exact True.intro | with_reducible assumption | exact unhid (by with_reducible assumption) | rfl | omega | trivial) (by first | exact True.intro | with_reducible assumption | exact unhid (by with_reducible assumption) | rfl | omega | trivial)) ?_
            rintro _ _ ⟨dt177, rfl, hI178, hF179, h176⟩
            refine ⟨rfl, ?_⟩
            have hF180 : Fr [79, 84] dt dt177 := Fr_tr hF151 hF179 (by decide)
            rcases h176 with ⟨rfl, h176⟩
            obtain ⟨h176_0, h176_1, h176_2, h176_3, h176_4, h176_5, h176_6, h176_7, h176_8, h176_9, h176_10, h176_11⟩ := h176
            have w181 : dt177 79 2 = dt107 79 2 := h176_2.trans w158
            have w182 : dt177 79 9 = dt107 79 9 := h176_3.trans w159
            have w183 : dt177 79 10 = dt107 79 10 := h176_4.trans w160
            have w184 : dt177 79 12 = dt107 79 12 := h176_5.trans w161
            have w185 : dt177 79 13 = dt148 79 13 := h176_6
            have w186 : dt177 79 14 = dt148 79 14 := h176_7
            have w187 : dt177 79 15 = dt148 79 15 := h176_8
            have w188 : dt177 79 16 = dt148 79 16 := h176_9
            have w189 : dt177 79 17 = dt107 79 17 := h176_10.trans w162
            have w190 : dt177 79 20 = dt107 79 20 := h176_11.trans w163
            have Q191 : RQ (rEv (KF 1 b n) (rC (KF 1 b n) (VF b n) j) (gC (KF 1 b n) (VF b n) j)) (rN (KF 1 b n) (rC (KF 1 b n) (VF b n) j) (gC (KF 1 b n) (VF b n) j) 600) dt dt177 i j164 := RQ_st Q169 (by omega) h176_1 (by rfl)
            have hc192 : CUR 1 b n dt177 j164 := CUR_sm hc166 (by first | with_reducible assumption | exact unhid (by with_reducible assumption) | rfl | fail) (by first | with_reducible assumption | exact unhid (by with_reducible assumption) | rfl | fail) (by first | with_reducible assumption | exact unhid (by with_reducible assumption) | rfl | fail) (by first | with_reducible assumption | exact unhid (by with_reducible assumption) | rfl | fail)
            clear h176_2 w158 h176_3 w159 h176_4 h176_5 w161 h176_6 h176_7 h176_8 h176_9 h176_10 w162 h176_11 w163
            refine go_toq PM169 (k := 1) (pc' := 9) (L' := [some (.inr (.inr (some 79)))]) (st' := []) (w' := (SH, dt177)) rfl ?_
            exact GO.le (ih_loop120 dt177 hI178 hF180 (by exact ⟨_, hp167, hc192, hi168, Q191⟩) (by first | with_reducible assumption | exact unhid (by with_reducible assumption) | omega | exact ⟨_, hp167, hc192, hi168, Q191⟩) (by first | with_reducible assumption | exact unhid (by with_reducible assumption) | omega | exact ⟨_, hp167, hc192, hi168, Q191⟩) (by first | with_reducible assumption | exact unhid (by with_reducible assumption) | omega | exact ⟨_, hp167, hc192, hi168, Q191⟩) (by first | with_reducible assumption | exact unhid (by with_reducible assumption) | omega | exact ⟨_, hp167, hc192, hi168, Q191⟩) (by first | with_reducible assumption | exact unhid (by with_reducible assumption) | omega | exact ⟨_, hp167, hc192, hi168, Q191⟩) (by first | with_reducible assumption | exact unhid (by with_reducible assumption) | omega | exact ⟨_, hp167, hc192, hi168, Q191⟩) (by first | with_reducible assumption | exact unhid (by with_reducible assumption) | omega | exact ⟨_, hp167, hc192, hi168, Q191⟩) (by first | with_reducible assumption | exact unhid (by with_reducible assumption) | omega | exact ⟨_, hp167, hc192, hi168, Q191⟩) (by first | with_reducible assumption | exact unhid (by with_reducible assumption) | omega | exact ⟨_, hp167, hc192, hi168, Q191⟩) (by omega)) ⟨.inl rfl, trivial⟩
    exact GO.le (loop120 _ dt6 hI7 hF9 (by exact ⟨_, hp25, hc24, hi26, Q27⟩) (by first | with_reducible assumption | exact unhid (by with_reducible assumption) | fail | exact ⟨_, hp25, hc24, hi26, Q27⟩) (by first | with_reducible assumption | exact unhid (by with_reducible assumption) | fail | exact ⟨_, hp25, hc24, hi26, Q27⟩) (by first | with_reducible assumption | exact unhid (by with_reducible assumption) | fail | exact ⟨_, hp25, hc24, hi26, Q27⟩) (by first | with_reducible assumption | exact unhid (by with_reducible assumption) | fail | exact ⟨_, hp25, hc24, hi26, Q27⟩) (by first | with_reducible assumption | exact unhid (by with_reducible assumption) | fail | exact ⟨_, hp25, hc24, hi26, Q27⟩) (by first | with_reducible assumption | exact unhid (by with_reducible assumption) | fail | exact ⟨_, hp25, hc24, hi26, Q27⟩) (by first | with_reducible assumption | exact unhid (by with_reducible assumption) | fail | exact ⟨_, hp25, hc24, hi26, Q27⟩) (by first | with_reducible assumption | exact unhid (by with_reducible assumption) | fail | exact ⟨_, hp25, hc24, hi26, Q27⟩) (by first | with_reducible assumption | exact unhid (by with_reducible assumption) | fail | exact ⟨_, hp25, hc24, hi26, Q27⟩) (Nat.lt_succ_self _)) ⟨.inl rfl, trivial⟩
set_option maxHeartbeats 1500000 in
set_option maxRecDepth 20000 in
theorem lv_X6_any_g (L : Nat) (xs : Nat → Int32) (sio : Option Nat) (d : Nat) (dt : Nat → Nat → Int) (hI : InvC dt) (b : Nat → Int) (n t i : Nat) (hbb : mB (dt 85) (dt 79 12) = b) (hnn : dt 79 12 = (n : Int)) (hz : KZ (KF 1 b n) t) (ht : t ≤ 500) (hc : CUR 1 b n dt i) (hi : i ≤ t) (hn5 : n ≤ 500) (j : Nat) (IH_X6_every : ∀ (L : Nat) (xs : Nat → Int32) (sio : Option Nat) (d : Nat) (dt : Nat → Nat → Int) (hI : InvC dt) (b : Nat → Int) (n t i : Nat) (hbb : mB (dt 85) (dt 79 12) = b) (hnn : dt 79 12 = (n : Int)) (hz : KZ (KF 1 b n) t) (ht : t ≤ 500) (hc : CUR 1 b n dt i) (hi : i ≤ t) (hn5 : n ≤ 500) (h_p0 : dt 79 9 = 1) (h_p1 : dt 79 11 ≤ dt 79 15) (h_p2 : dt 79 20 + ((j : Nat) : Int) = 8) (h_p3 : 3 * j ≤ d), GO (am_XX L xs sio) (d + 11) 169 0 [some (.inr (.inr (some 79)))] [] (SH, dt) (fun r w2 => ∃ dt2 : Nat → Nat → Int, w2 = (SH, dt2) ∧ InvC dt2 ∧ Fr [79, 84] dt dt2 ∧ ((r = some (.inl 0) ∧ (RSX 1 b n i dt2 0 ((gEv (KF 1 b n) (VF b n) j) i)) ∧ (dt2 79 2 = dt 79 2) ∧ (dt2 79 9 = dt 79 9) ∧ (dt2 79 10 = dt 79 10) ∧ (dt2 79 12 = dt 79 12)) ∨ (r = some (.inl 1) ∧ (RSX 1 b n i dt2 1 ((gEv (KF 1 b n) (VF b n) j) i)) ∧ (dt 79 15 + dt2 79 11 ≤ dt2 79 15 + dt 79 11) ∧ (dt 79 11 + 1 ≤ dt2 79 11) ∧ (dt2 79 15 ≤ 500) ∧ (RXD dt dt2 ((rEv (KF 1 b n) (rC (KF 1 b n) (VF b n) j) (gC (KF 1 b n) (VF b n) j)) i)) ∧ (dt2 79 2 = dt 79 2) ∧ (dt2 79 9 = dt 79 9) ∧ (dt2 79 10 = dt 79 10) ∧ (dt2 79 12 = dt 79 12) ∧ (dt2 79 17 = dt 79 17) ∧ (dt2 79 20 = dt 79 20)))))   (h_p0 : dt 79 9 = 1) (h_p1 : dt 79 11 ≤ dt 79 15) (h_p2 : dt 79 20 + ((j : Nat) : Int) = 8) (h_p3 : 3 * j ≤ d) : GO (am_XX L xs sio) (d + 12) 168 0 [some (.inr (.inr (some 79)))] [] (SH, dt) (fun r w2 => ∃ dt2 : Nat → Nat → Int, w2 = (SH, dt2) ∧ InvC dt2 ∧ Fr [79, 84] dt dt2 ∧ ((r = some (.inl 0) ∧ (RSX 1 b n i dt2 0 ((gB_ (KF 1 b n) (VF b n) j) i)) ∧ (dt2 79 2 = dt 79 2) ∧ (dt2 79 9 = dt 79 9) ∧ (dt2 79 10 = dt 79 10) ∧ (dt2 79 12 = dt 79 12)) ∨ (r = some (.inl 1) ∧ (RSX 1 b n i dt2 1 ((gB_ (KF 1 b n) (VF b n) j) i)) ∧ (dt 79 15 + dt2 79 11 ≤ dt2 79 15 + dt 79 11) ∧ (dt 79 11 + 1 ≤ dt2 79 11) ∧ (dt2 79 15 ≤ 500) ∧ (RXD dt dt2 ((rB (KF 1 b n) (VF b n) j) i)) ∧ (dt2 79 2 = dt 79 2) ∧ (dt2 79 9 = dt 79 9) ∧ (dt2 79 10 = dt 79 10) ∧ (dt2 79 12 = dt 79 12) ∧ (dt2 79 17 = dt 79 17) ∧ (dt2 79 20 = dt 79 20)))) := by
  have hF : Fr [79, 84] dt dt := Fr_refl
  have r1 : 0 ≤ dt 79 15 ∧ dt 79 15 ≤ 500 := InvC_get hI 79 15 rfl rfl
  have r2 : 0 ≤ dt 79 11 ∧ dt 79 11 ≤ 510 := InvC_get hI 79 11 rfl rfl
  have r3 : 0 ≤ dt 79 10 ∧ dt 79 10 ≤ 24 := InvC_get hI 79 10 rfl rfl
  have r4 : 0 ≤ dt 79 20 ∧ dt 79 20 ≤ 8 := InvC_get hI 79 20 rfl rfl
  have cr0 := hid (CUR_R hc (.inr rfl))
  have cd0 := CUR_d (hc)
  have cb0 := hid (CUR_b hc)
  have cv0 := hid (CUR_v hc)
  have ck0 := hid (KZ_lt (i := i) hz)
  have c10 := hc.1
  refine go_toq PM168 (k := 1) (pc' := 1) (L' := [some (.inr (.inr (some 79)))]) (st' := [.inr (.inr (some 79))]) (w' := (SH, dt)) rfl ?_
  have u5_ := hid (And.intro (unhid cr0) (And.intro (unhid cb0) (And.intro (unhid cv0) (unhid ck0))))
  refine go_callq PM168 PM169 (Q' := _) rfl rfl rfl rfl (IH_X6_every L xs sio (d + 0) dt hI b n t i (by first | exact hbb | (rw [show dt 85 = dt 85 from funext (hF 85 (by decide)), show dt 79 12 = dt 79 12 by first | with_reducible assumption | exact unhid (by with_reducible assumption) | fail]; exact hbb)) (by first | with_reducible assumption | exact unhid (by with_reducible assumption) | exact Eq.trans (by with_reducible assumption) hnn | fail) hz ht hc hi hn5  (by first | exact True.intro | with_reducible assumption | exact unhid (by with_reducible assumption) | rfl | fail | trivial) (by first | exact True.intro | with_reducible assumption | exact unhid (by with_reducible assumption) | rfl | fail | trivial) (by first | exact True.intro | with_reducible assumption | exact unhid (by with_reducible assumption) | rfl | fail | trivial) (by first | exact True.intro | with_reducible assumption | exact unhid (by with_reducible assumption) | rfl | omega | trivial)) ?_
  rintro _ _ ⟨dt6, rfl, hI7, hF8, h5⟩
  refine ⟨rfl, ?_⟩
  have hF9 : Fr [79, 84] dt dt6 := Fr_tr hF hF8 (by decide)
  rcases h5 with ⟨rfl, h5⟩ | ⟨rfl, h5⟩
  · skip
    obtain ⟨h5_0, h5_1, h5_2, h5_3, h5_4⟩ := h5
    have w10 : dt6 79 2 = dt 79 2 := h5_1
    have w11 : dt6 79 9 = dt 79 9 := h5_2
    have w12 : dt6 79 10 = dt 79 10 := h5_3
    have w13 : dt6 79 12 = dt 79 12 := h5_4
    have fl14 := RSX_0 h5_0 rfl
    have fe15 : (gB_ (KF 1 b n) (VF b n) j) i = (gEv (KF 1 b n) (VF b n) j) i := (rfl : (gB_ (KF 1 b n) (VF b n) j) i = (gB_ (KF 1 b n) (VF b n) j) i).trans ((show (gB_ (KF 1 b n) (VF b n) j) i = gB ((gEv (KF 1 b n) (VF b n) j) i) (gO (KF 1 b n) (gC (KF 1 b n) (VF b n) j) 600) by exact gB_NO' hz (by omega)).trans (gB_no fl14.1))
    clear h5_1 h5_2 h5_3 h5_4
    refine go_retq PM168 (k := 2) (r := some (.inl 0)) (w1 := (SH, dt6)) rfl ?_
    exact ⟨dt6, rfl, hI7, hF9, (Or.inl ⟨rfl, ⟨by exact RSX_f fe15 fl14 (by first | rfl | with_reducible assumption | exact unhid (by with_reducible assumption) | fail) (by first | rfl | with_reducible assumption | exact unhid (by with_reducible assumption) | fail), by first | exact True.intro | with_reducible assumption | exact unhid (by with_reducible assumption) | rfl | fail | trivial, by first | exact True.intro | with_reducible assumption | exact unhid (by with_reducible assumption) | rfl | fail | trivial, by first | exact True.intro | with_reducible assumption | exact unhid (by with_reducible assumption) | rfl | fail | trivial, by first | exact True.intro | with_reducible assumption | exact unhid (by with_reducible assumption) | rfl | fail | trivial⟩⟩)⟩
  · skip
    obtain ⟨h5_0, h5_1, h5_2, h5_3, h5_4, h5_5, h5_6, h5_7, h5_8, h5_9, h5_10⟩ := h5
    have w16 : dt6 79 2 = dt 79 2 := h5_5
    have w17 : dt6 79 9 = dt 79 9 := h5_6
    have w18 : dt6 79 10 = dt 79 10 := h5_7
    have w19 : dt6 79 12 = dt 79 12 := h5_8
    have w20 : dt6 79 17 = dt 79 17 := h5_9
    have w21 : dt6 79 20 = dt 79 20 := h5_10
    obtain ⟨j22, ej23, hc24⟩ := RSX_1 h5_0 (by decide)
    have hp25 : (gB_ (KF 1 b n) (VF b n) j) i = (gO (KF 1 b n) (gC (KF 1 b n) (VF b n) j) 600) j22 := (rfl : (gB_ (KF 1 b n) (VF b n) j) i = (gB_ (KF 1 b n) (VF b n) j) i).trans ((show (gB_ (KF 1 b n) (VF b n) j) i = gB ((gEv (KF 1 b n) (VF b n) j) i) (gO (KF 1 b n) (gC (KF 1 b n) (VF b n) j) 600) by exact gB_NO' hz (by (have z_ := unhid u5_; omega))).trans (by rw [ej23]; exact gB_0))
    have hi26 : j22 ≤ t := by have z := gEv_M (K := (KF 1 b n)) (V := (VF b n)) (d := j) (i := i) hz; rw [ej23] at z; have y := z rfl; simp only at y; omega
    have Q27 : RQ (rB (KF 1 b n) (VF b n) j) (rO (KF 1 b n) (rC (KF 1 b n) (VF b n) j) (gC (KF 1 b n) (VF b n) j) 600) dt dt6 i j22 := RQ_st RQ_0 (by omega) h5_4 (by have y_ := (show gB (gC (KF 1 b n) (VF b n) j i) (gN (KF 1 b n) (gC (KF 1 b n) (VF b n) j) 600) = (0, j22) from ej23); show rEv _ _ _ i ++ rO _ _ _ 600 (gB _ _).2 = _; rw [y_])
    clear cr0 cb0 cd0 cv0 ck0
    have cr28 := hid (CUR_R hc24 (.inr rfl))
    have cd29 := CUR_d (hc24)
    have cb29 := hid (CUR_b hc24)
    have cv30 := hid (CUR_v hc24)
    have ck31 := hid (KZ_lt (i := j22) hz)
    have c132 := (hc24).1
    have ci33 := hi26
    clear h5_5 h5_6 h5_7 h5_8 h5_9 h5_10
    refine go_toq PM168 (k := 1) (pc' := 9) (L' := [some (.inr (.inr (some 79)))]) (st' := []) (w' := (SH, dt6)) rfl ?_
    have loop120 : ∀ (k_ : Nat) (dt107 : Nat → Nat → Int) (hI108 : InvC dt107) (hF109 : Fr [79, 84] dt dt107) (i110 : ∃ q : Nat, (gB_ (KF 1 b n) (VF b n) j) i = (gO (KF 1 b n) (gC (KF 1 b n) (VF b n) j) 600) q ∧ CUR 1 b n dt107 q ∧ q ≤ t ∧ RQ (rB (KF 1 b n) (VF b n) j) (rO (KF 1 b n) (rC (KF 1 b n) (VF b n) j) (gC (KF 1 b n) (VF b n) j) 600) dt dt107 i q) (i111 : dt 79 15 + dt107 79 11 ≤ dt107 79 15 + dt 79 11) (i112 : dt 79 11 + 1 ≤ dt107 79 11) (i113 : dt107 79 15 ≤ 500) (i114 : dt107 79 2 = dt 79 2) (i115 : dt107 79 9 = dt 79 9) (i116 : dt107 79 10 = dt 79 10) (i117 : dt107 79 12 = dt 79 12) (i118 : dt107 79 17 = dt 79 17) (i119 : dt107 79 20 = dt 79 20), (502 - dt107 79 15).toNat < k_ → GO (am_XX L xs sio) (d + 12) 168 9 [some (.inr (.inr (some 79)))] [] (SH, dt107) (fun r w2 => ∃ dt2 : Nat → Nat → Int, w2 = (SH, dt2) ∧ InvC dt2 ∧ Fr [79, 84] dt dt2 ∧ ((r = some (.inl 0) ∧ (RSX 1 b n i dt2 0 ((gB_ (KF 1 b n) (VF b n) j) i)) ∧ (dt2 79 2 = dt 79 2) ∧ (dt2 79 9 = dt 79 9) ∧ (dt2 79 10 = dt 79 10) ∧ (dt2 79 12 = dt 79 12)) ∨ (r = some (.inl 1) ∧ (RSX 1 b n i dt2 1 ((gB_ (KF 1 b n) (VF b n) j) i)) ∧ (dt 79 15 + dt2 79 11 ≤ dt2 79 15 + dt 79 11) ∧ (dt 79 11 + 1 ≤ dt2 79 11) ∧ (dt2 79 15 ≤ 500) ∧ (RXD dt dt2 ((rB (KF 1 b n) (VF b n) j) i)) ∧ (dt2 79 2 = dt 79 2) ∧ (dt2 79 9 = dt 79 9) ∧ (dt2 79 10 = dt 79 10) ∧ (dt2 79 12 = dt 79 12) ∧ (dt2 79 17 = dt 79 17) ∧ (dt2 79 20 = dt 79 20)))) := by
      intro k_
      induction k_ with
      | zero => intro dt107 hI108 hF109 i110 i111 i112 i113 i114 i115 i116 i117 i118 i119 hm; exact absurd hm (Nat.not_lt_zero _)
      | succ k_ ih_loop120 =>
        intro dt107 hI108 hF109 i110 i111 i112 i113 i114 i115 i116 i117 i118 i119 hm
        clear cr28 cb29 cd29 cv30 ck31
        obtain ⟨gq, hpq, hcq, hiq, hQq⟩ := i110
        have crq := CUR_R hcq (.inr rfl)
        have cbq := CUR_b hcq
        have cvq := CUR_v hcq
        have ckq := KZ_lt (i := gq) hz
        have c1q := hcq.1
        have r121 : (-2147483648) ≤ dt107 79 14 ∧ dt107 79 14 ≤ 2147483647 := InvC_get hI108 79 14 rfl rfl
        refine go_ifq PM168 (k := 3) (p1 := 40) (p2 := 17) (L' := [some (.inr (.inr (some 79)))]) (st' := []) (w' := (SH, dt107)) rfl (c_ne (a := dt107 79 14) (b := 4) (by first | exact bnd r121 (by decide) (by decide) | exact ⟨by fail, by fail⟩) ⟨by decide, by decide⟩) (fun c122 => ?_) (fun c122 => ?_)
        · skip
          replace c122 := hid c122
          refine go_retq PM168 (k := 1) (r := some (.inl 1)) (w1 := (SH, dt107)) rfl ?_
          exact ⟨dt107, rfl, hI108, hF109, (Or.inr ⟨rfl, ⟨by exact RSX_ok (hpq.trans (by show gO _ _ 600 gq = _; rw [gO_u (gC_M hz _) (by omega) (by omega), if_neg (by (have z_ := unhid c122; omega))])) hcq, by first | exact True.intro | with_reducible assumption | exact unhid (by with_reducible assumption) | rfl | fail | trivial, by first | exact True.intro | with_reducible assumption | exact unhid (by with_reducible assumption) | rfl | fail | trivial, by exact (InvC_get (by assumption) 79 15 rfl rfl).2, by exact RQ_e (RQ_g hQq (by rw [rO_u (gC_M hz _) (by omega), if_neg (fun z_ => by (have z_ := unhid c122; omega))]; rfl)), by first | exact True.intro | with_reducible assumption | exact unhid (by with_reducible assumption) | rfl | fail | trivial, by first | exact True.intro | with_reducible assumption | exact unhid (by with_reducible assumption) | rfl | fail | trivial, by first | exact True.intro | with_reducible assumption | exact unhid (by with_reducible assumption) | rfl | fail | trivial, by first | exact True.intro | with_reducible assumption | exact unhid (by with_reducible assumption) | rfl | fail | trivial, by first | exact True.intro | with_reducible assumption | exact unhid (by with_reducible assumption) | rfl | fail | trivial, by first | exact True.intro | with_reducible assumption | exact unhid (by with_reducible assumption) | rfl | fail | trivial⟩⟩)⟩
        · skip
          refine go_toq PM168 (k := 1) (pc' := 18) (L' := [some (.inr (.inr (some 79)))]) (st' := [.inr (.inr (some 79))]) (w' := (SH, dt107)) rfl ?_
          refine go_callq PM168 PM159 (Q' := _) rfl rfl rfl rfl (sp_X6_next0_p1 L xs sio (d + 5) dt107 hI108   (by first | exact True.intro | with_reducible assumption | rfl | omega | trivial) (by first | exact True.intro | with_reducible assumption | rfl | omega | trivial)) ?_
          rintro _ _ ⟨dt124, rfl, hI125, hF126, h123⟩
          refine ⟨rfl, ?_⟩
          have hF127 : Fr [79, 84] dt dt124 := Fr_tr hF109 hF126 (by decide)
          rcases h123 with ⟨rfl, h123⟩
          obtain ⟨h123_0, h123_1, h123_2, h123_3, h123_4, h123_5, h123_6, h123_7, h123_8⟩ := h123
          have w128 : dt124 79 2 = dt107 79 2 := h123_2
          have w129 : dt124 79 9 = dt107 79 9 := h123_3
          have w130 : dt124 79 10 = dt107 79 10 := h123_4
          have w131 : dt124 79 11 = dt107 79 11 := h123_5
          have w132 : dt124 79 12 = dt107 79 12 := h123_6
          have w133 : dt124 79 17 = dt107 79 17 := h123_7
          have w134 : dt124 79 20 = dt107 79 20 := h123_8
          have hq135 := h123_0
          rw [show dt107 85 = dt 85 from funext (hF109 85 (by decide)), show dt107 79 12 = dt 79 12 by first | with_reducible assumption | fail, hbb, show (dt 79 12).toNat = n from (congrArg Int.toNat hnn).trans (Int.toNat_natCast n)] at hq135
          have hc136 : CUR 1 b n dt124 (gq + 1) := CUR_n hcq hq135
          have hi137 : gq + 1 ≤ t := by omega
          have av138 : dt107 79 15 + 1 ≤ dt107 79 13 := by omega
          have kk_139 : KF 1 b n gq = 1003 := by omega
          have hp140 : (gB_ (KF 1 b n) (VF b n) j) i = (fun i => gB (gEv (KF 1 b n) (VF b n) j i) (gO (KF 1 b n) (gC (KF 1 b n) (VF b n) j) 600)) (gq + 1) := hpq.trans (by show gO _ _ 600 gq = _; rw [gO_u (gC_M hz _) (by omega) (by omega)]; first | (rw [if_pos (by omega)]; done) | (rw [if_pos (by omega)]; rfl))
          clear crq cbq cvq ckq
          have cr141 := hid (CUR_R hc136 (.inr rfl))
          have cd142 := CUR_d (hc136)
          have cb142 := hid (CUR_b hc136)
          have cv143 := hid (CUR_v hc136)
          have ck144 := hid (KZ_lt (i := (gq + 1)) hz)
          have c1145 := (hc136).1
          have ci146 := hi137
          clear h123_2 h123_3 h123_4 h123_5 h123_6 h123_7 h123_8
          refine go_toq PM168 (k := 1) (pc' := 22) (L' := [some (.inr (.inr (some 79)))]) (st' := [.inr (.inr (some 79))]) (w' := (SH, dt124)) rfl ?_
          refine go_callq PM168 PM169 (Q' := _) rfl rfl rfl rfl (IH_X6_every L xs sio (d + 0) dt124 hI125 b n t (gq + 1) (by first | exact hbb | (rw [show dt124 85 = dt 85 from funext (hF127 85 (by decide)), show dt124 79 12 = dt 79 12 by first | with_reducible assumption | exact unhid (by with_reducible assumption) | omega]; exact hbb)) (by first | with_reducible assumption | exact unhid (by with_reducible assumption) | exact Eq.trans (by with_reducible assumption) hnn | omega) hz ht hc136 hi137 hn5  (by first | exact True.intro | with_reducible assumption | exact unhid (by with_reducible assumption) | rfl | omega | trivial) (by first | exact True.intro | with_reducible assumption | exact unhid (by with_reducible assumption) | rfl | omega | trivial) (by first | exact True.intro | with_reducible assumption | exact unhid (by with_reducible assumption) | rfl | omega | trivial) (by first | exact True.intro | with_reducible assumption | exact unhid (by with_reducible assumption) | rfl | omega | trivial)) ?_
          rintro _ _ ⟨dt148, rfl, hI149, hF150, h147⟩
          refine ⟨rfl, ?_⟩
          have hF151 : Fr [79, 84] dt dt148 := Fr_tr hF127 hF150 (by decide)
          rcases h147 with ⟨rfl, h147⟩ | ⟨rfl, h147⟩
          · skip
            obtain ⟨h147_0, h147_1, h147_2, h147_3, h147_4⟩ := h147
            have w152 : dt148 79 2 = dt107 79 2 := h147_1.trans w128
            have w153 : dt148 79 9 = dt107 79 9 := h147_2.trans w129
            have w154 : dt148 79 10 = dt107 79 10 := h147_3.trans w130
            have w155 : dt148 79 12 = dt107 79 12 := h147_4.trans w132
            have fl156 := RSX_0 h147_0 rfl
            have fe157 : (gB_ (KF 1 b n) (VF b n) j) i = (gEv (KF 1 b n) (VF b n) j) (gq + 1) := hp140.trans ((show (fun i => gB (gEv (KF 1 b n) (VF b n) j i) (gO (KF 1 b n) (gC (KF 1 b n) (VF b n) j) 600)) (gq + 1) = gB ((gEv (KF 1 b n) (VF b n) j) (gq + 1)) (gO (KF 1 b n) (gC (KF 1 b n) (VF b n) j) 600) by rfl).trans (gB_no fl156.1))
            clear h147_1 w128 h147_2 w129 h147_3 h147_4 w132
            refine go_retq PM168 (k := 2) (r := some (.inl 0)) (w1 := (SH, dt148)) rfl ?_
            exact ⟨dt148, rfl, hI149, hF151, (Or.inl ⟨rfl, ⟨by exact RSX_f fe157 fl156 (by first | rfl | with_reducible assumption | exact unhid (by with_reducible assumption) | fail) (by first | rfl | with_reducible assumption | exact unhid (by with_reducible assumption) | fail), by first | exact True.intro | with_reducible assumption | exact unhid (by with_reducible assumption) | rfl | omega | trivial, by first | exact True.intro | with_reducible assumption | exact unhid (by with_reducible assumption) | rfl | omega | trivial, by first | exact True.intro | with_reducible assumption | exact unhid (by with_reducible assumption) | rfl | omega | trivial, by first | exact True.intro | with_reducible assumption | exact unhid (by with_reducible assumption) | rfl | omega | trivial⟩⟩)⟩
          · skip
            obtain ⟨h147_0, h147_1, h147_2, h147_3, h147_4, h147_5, h147_6, h147_7, h147_8, h147_9, h147_10⟩ := h147
            have w158 : dt148 79 2 = dt107 79 2 := h147_5.trans w128
            have w159 : dt148 79 9 = dt107 79 9 := h147_6.trans w129
            have w160 : dt148 79 10 = dt107 79 10 := h147_7.trans w130
            have w161 : dt148 79 12 = dt107 79 12 := h147_8.trans w132
            have w162 : dt148 79 17 = dt107 79 17 := h147_9.trans w133
            have w163 : dt148 79 20 = dt107 79 20 := h147_10.trans w134
            obtain ⟨j164, ej165, hc166⟩ := RSX_1 h147_0 (by decide)
            have hp167 : (gB_ (KF 1 b n) (VF b n) j) i = (gO (KF 1 b n) (gC (KF 1 b n) (VF b n) j) 600) j164 := hp140.trans ((show (fun i => gB (gEv (KF 1 b n) (VF b n) j i) (gO (KF 1 b n) (gC (KF 1 b n) (VF b n) j) 600)) (gq + 1) = gB ((gEv (KF 1 b n) (VF b n) j) (gq + 1)) (gO (KF 1 b n) (gC (KF 1 b n) (VF b n) j) 600) by rfl).trans (by rw [ej165]; exact gB_0))
            have hi168 : j164 ≤ t := by have z := gEv_M (K := (KF 1 b n)) (V := (VF b n)) (d := j) (i := (gq + 1)) hz; rw [ej165] at z; have y := z rfl; simp only at y; omega
            have Q169 : RQ (rB (KF 1 b n) (VF b n) j) (fun q_ => [-10] ++ (rO (KF 1 b n) (rC (KF 1 b n) (VF b n) j) (gC (KF 1 b n) (VF b n) j) 600) q_) dt dt148 i j164 := RQ_st hQq (by omega) (RXD_l (by omega) (fun j => hF126 84 (by decide) j) h147_4) (by have y_ := (show gB (gC (KF 1 b n) (VF b n) j (gq + 1)) (gN (KF 1 b n) (gC (KF 1 b n) (VF b n) j) 600) = (0, j164) from ej165); rw [rO_u (gC_M hz _) (by omega), if_pos ⟨by omega, by rw [y_]⟩, y_])
            clear cr141 cb142 cd142 cv143 ck144
            have cr170 := hid (CUR_R hc166 (.inr rfl))
            have cd171 := CUR_d (hc166)
            have cb171 := hid (CUR_b hc166)
            have cv172 := hid (CUR_v hc166)
            have ck173 := hid (KZ_lt (i := j164) hz)
            have c1174 := (hc166).1
            have ci175 := hi168
            clear h147_5 w128 h147_6 w129 h147_7 h147_8 w132 h147_9 w133 h147_10 w134
            refine go_toq PM168 (k := 4) (pc' := 34) (L' := [some (.inr (.inr (some 79)))]) (st' := [.inl 0, .inl 16, .inr (.inr (some 79))]) (w' := (SH, dt148)) rfl ?_
            refine go_callq PM168 PM163 (Q' := _) rfl rfl rfl rfl (sp_X6_lay_g L xs sio (d + 11) dt148 hI149  16 ⟨by decide, by decide⟩ 0 ⟨by decide, by decide⟩ (by first | exact True.intro | with_reducible assumption | exact unhid (by with_reducible assumption) | rfl | omega | trivial) (by first | exact True.intro | with_reducible assumption | exact unhid (by with_reducible assumption) | rfl | omega | trivial)) ?_
            rintro _ _ ⟨dt177, rfl, hI178, hF179, h176⟩
            refine ⟨rfl, ?_⟩
            have hF180 : Fr [79, 84] dt dt177 := Fr_tr hF151 hF179 (by decide)
            rcases h176 with ⟨rfl, h176⟩
            obtain ⟨h176_0, h176_1, h176_2, h176_3, h176_4, h176_5, h176_6, h176_7, h176_8, h176_9, h176_10, h176_11⟩ := h176
            have w181 : dt177 79 2 = dt107 79 2 := h176_2.trans w158
            have w182 : dt177 79 9 = dt107 79 9 := h176_3.trans w159
            have w183 : dt177 79 10 = dt107 79 10 := h176_4.trans w160
            have w184 : dt177 79 12 = dt107 79 12 := h176_5.trans w161
            have w185 : dt177 79 13 = dt148 79 13 := h176_6
            have w186 : dt177 79 14 = dt148 79 14 := h176_7
            have w187 : dt177 79 15 = dt148 79 15 := h176_8
            have w188 : dt177 79 16 = dt148 79 16 := h176_9
            have w189 : dt177 79 17 = dt107 79 17 := h176_10.trans w162
            have w190 : dt177 79 20 = dt107 79 20 := h176_11.trans w163
            have Q191 : RQ (rB (KF 1 b n) (VF b n) j) (rO (KF 1 b n) (rC (KF 1 b n) (VF b n) j) (gC (KF 1 b n) (VF b n) j) 600) dt dt177 i j164 := RQ_st Q169 (by omega) h176_1 (by rfl)
            have hc192 : CUR 1 b n dt177 j164 := CUR_sm hc166 (by first | with_reducible assumption | exact unhid (by with_reducible assumption) | rfl | fail) (by first | with_reducible assumption | exact unhid (by with_reducible assumption) | rfl | fail) (by first | with_reducible assumption | exact unhid (by with_reducible assumption) | rfl | fail) (by first | with_reducible assumption | exact unhid (by with_reducible assumption) | rfl | fail)
            clear h176_2 w158 h176_3 w159 h176_4 h176_5 w161 h176_6 h176_7 h176_8 h176_9 h176_10 w162 h176_11 w163
            refine go_toq PM168 (k := 1) (pc' := 9) (L' := [some (.inr (.inr (some 79)))]) (st' := []) (w' := (SH, dt177)) rfl ?_
            exact GO.le (ih_loop120 dt177 hI178 hF180 (by exact ⟨_, hp167, hc192, hi168, Q191⟩) (by first | with_reducible assumption | exact unhid (by with_reducible assumption) | omega | exact ⟨_, hp167, hc192, hi168, Q191⟩) (by first | with_reducible assumption | exact unhid (by with_reducible assumption) | omega | exact ⟨_, hp167, hc192, hi168, Q191⟩) (by first | with_reducible assumption | exact unhid (by with_reducible assumption) | omega | exact ⟨_, hp167, hc192, hi168, Q191⟩) (by first | with_reducible assumption | exact unhid (by with_reducible assumption) | omega | exact ⟨_, hp167, hc192, hi168, Q191⟩) (by first | with_reducible assumption | exact unhid (by with_reducible assumption) | omega | exact ⟨_, hp167, hc192, hi168, Q191⟩) (by first | with_reducible assumption | exact unhid (by with_reducible assumption) | omega | exact ⟨_, hp167, hc192, hi168, Q191⟩) (by first | with_reducible assumption | exact unhid (by with_reducible assumption) | omega | exact ⟨_, hp167, hc192, hi168, Q191⟩) (by first | with_reducible assumption | exact unhid (by with_reducible assumption) | omega | exact ⟨_, hp167, hc192, hi168, Q191⟩) (by first | with_reducible assumption | exact unhid (by with_reducible assumption) | omega | exact ⟨_, hp167, hc192, hi168, Q191⟩) (by omega)) ⟨.inl rfl, trivial⟩
    exact GO.le (loop120 _ dt6 hI7 hF9 (by exact ⟨_, hp25, hc24, hi26, Q27⟩) (by first | with_reducible assumption | exact unhid (by with_reducible assumption) | fail | exact ⟨_, hp25, hc24, hi26, Q27⟩) (by first | with_reducible assumption | exact unhid (by with_reducible assumption) | fail | exact ⟨_, hp25, hc24, hi26, Q27⟩) (by first | with_reducible assumption | exact unhid (by with_reducible assumption) | fail | exact ⟨_, hp25, hc24, hi26, Q27⟩) (by first | with_reducible assumption | exact unhid (by with_reducible assumption) | fail | exact ⟨_, hp25, hc24, hi26, Q27⟩) (by first | with_reducible assumption | exact unhid (by with_reducible assumption) | fail | exact ⟨_, hp25, hc24, hi26, Q27⟩) (by first | with_reducible assumption | exact unhid (by with_reducible assumption) | fail | exact ⟨_, hp25, hc24, hi26, Q27⟩) (by first | with_reducible assumption | exact unhid (by with_reducible assumption) | fail | exact ⟨_, hp25, hc24, hi26, Q27⟩) (by first | with_reducible assumption | exact unhid (by with_reducible assumption) | fail | exact ⟨_, hp25, hc24, hi26, Q27⟩) (by first | with_reducible assumption | exact unhid (by with_reducible assumption) | fail | exact ⟨_, hp25, hc24, hi26, Q27⟩) (Nat.lt_succ_self _)) ⟨.inl rfl, trivial⟩
set_option maxHeartbeats 1500000 in
set_option maxRecDepth 20000 in
theorem lv_X6_one_g (L : Nat) (xs : Nat → Int32) (sio : Option Nat) (d : Nat) (dt : Nat → Nat → Int) (hI : InvC dt) (b : Nat → Int) (n t i : Nat) (hbb : mB (dt 85) (dt 79 12) = b) (hnn : dt 79 12 = (n : Int)) (hz : KZ (KF 1 b n) t) (ht : t ≤ 500) (hc : CUR 1 b n dt i) (hi : i ≤ t) (hn5 : n ≤ 500) (j : Nat) (IH_X6_one : ∀ (L : Nat) (xs : Nat → Int32) (sio : Option Nat) (d : Nat) (dt : Nat → Nat → Int) (hI : InvC dt) (b : Nat → Int) (n t i : Nat) (hbb : mB (dt 85) (dt 79 12) = b) (hnn : dt 79 12 = (n : Int)) (hz : KZ (KF 1 b n) t) (ht : t ≤ 500) (hc : CUR 1 b n dt i) (hi : i ≤ t) (hn5 : n ≤ 500) (h_p0 : dt 79 9 = 1) (h_p1 : dt 79 11 ≤ dt 79 15) (h_p2 : dt 79 20 + ((j : Nat) : Int) = 8) (h_p3 : 3 * j ≤ d), GO (am_XX L xs sio) (d + 10) 170 0 [some (.inr (.inr (some 79))), none] [] (SH, dt) (fun r w2 => ∃ dt2 : Nat → Nat → Int, w2 = (SH, dt2) ∧ InvC dt2 ∧ Fr [79, 84] dt dt2 ∧ ((r = some (.inl 0) ∧ (RSX 1 b n i dt2 0 ((gC (KF 1 b n) (VF b n) j) i)) ∧ (dt2 79 2 = dt 79 2) ∧ (dt2 79 9 = dt 79 9) ∧ (dt2 79 10 = dt 79 10) ∧ (dt2 79 12 = dt 79 12)) ∨ (r = some (.inl 1) ∧ (RSX 1 b n i dt2 1 ((gC (KF 1 b n) (VF b n) j) i)) ∧ (dt 79 15 + dt2 79 11 ≤ dt2 79 15 + dt 79 11) ∧ (dt 79 11 + 1 ≤ dt2 79 11) ∧ (dt2 79 15 ≤ 500) ∧ (RXD dt dt2 ((rC (KF 1 b n) (VF b n) j) i)) ∧ (dt2 79 2 = dt 79 2) ∧ (dt2 79 9 = dt 79 9) ∧ (dt2 79 10 = dt 79 10) ∧ (dt2 79 12 = dt 79 12) ∧ (dt2 79 17 = dt 79 17) ∧ (dt2 79 20 = dt 79 20))))) (IH_X6_every : ∀ (L : Nat) (xs : Nat → Int32) (sio : Option Nat) (d : Nat) (dt : Nat → Nat → Int) (hI : InvC dt) (b : Nat → Int) (n t i : Nat) (hbb : mB (dt 85) (dt 79 12) = b) (hnn : dt 79 12 = (n : Int)) (hz : KZ (KF 1 b n) t) (ht : t ≤ 500) (hc : CUR 1 b n dt i) (hi : i ≤ t) (hn5 : n ≤ 500) (h_p0 : dt 79 9 = 1) (h_p1 : dt 79 11 ≤ dt 79 15) (h_p2 : dt 79 20 + ((j : Nat) : Int) = 8) (h_p3 : 3 * j ≤ d), GO (am_XX L xs sio) (d + 11) 169 0 [some (.inr (.inr (some 79)))] [] (SH, dt) (fun r w2 => ∃ dt2 : Nat → Nat → Int, w2 = (SH, dt2) ∧ InvC dt2 ∧ Fr [79, 84] dt dt2 ∧ ((r = some (.inl 0) ∧ (RSX 1 b n i dt2 0 ((gEv (KF 1 b n) (VF b n) j) i)) ∧ (dt2 79 2 = dt 79 2) ∧ (dt2 79 9 = dt 79 9) ∧ (dt2 79 10 = dt 79 10) ∧ (dt2 79 12 = dt 79 12)) ∨ (r = some (.inl 1) ∧ (RSX 1 b n i dt2 1 ((gEv (KF 1 b n) (VF b n) j) i)) ∧ (dt 79 15 + dt2 79 11 ≤ dt2 79 15 + dt 79 11) ∧ (dt 79 11 + 1 ≤ dt2 79 11) ∧ (dt2 79 15 ≤ 500) ∧ (RXD dt dt2 ((rEv (KF 1 b n) (rC (KF 1 b n) (VF b n) j) (gC (KF 1 b n) (VF b n) j)) i)) ∧ (dt2 79 2 = dt 79 2) ∧ (dt2 79 9 = dt 79 9) ∧ (dt2 79 10 = dt 79 10) ∧ (dt2 79 12 = dt 79 12) ∧ (dt2 79 17 = dt 79 17) ∧ (dt2 79 20 = dt 79 20))))) (IH_X6_any : ∀ (L : Nat) (xs : Nat → Int32) (sio : Option Nat) (d : Nat) (dt : Nat → Nat → Int) (hI : InvC dt) (b : Nat → Int) (n t i : Nat) (hbb : mB (dt 85) (dt 79 12) = b) (hnn : dt 79 12 = (n : Int)) (hz : KZ (KF 1 b n) t) (ht : t ≤ 500) (hc : CUR 1 b n dt i) (hi : i ≤ t) (hn5 : n ≤ 500) (h_p0 : dt 79 9 = 1) (h_p1 : dt 79 11 ≤ dt 79 15) (h_p2 : dt 79 20 + ((j : Nat) : Int) = 8) (h_p3 : 3 * j ≤ d), GO (am_XX L xs sio) (d + 12) 168 0 [some (.inr (.inr (some 79)))] [] (SH, dt) (fun r w2 => ∃ dt2 : Nat → Nat → Int, w2 = (SH, dt2) ∧ InvC dt2 ∧ Fr [79, 84] dt dt2 ∧ ((r = some (.inl 0) ∧ (RSX 1 b n i dt2 0 ((gB_ (KF 1 b n) (VF b n) j) i)) ∧ (dt2 79 2 = dt 79 2) ∧ (dt2 79 9 = dt 79 9) ∧ (dt2 79 10 = dt 79 10) ∧ (dt2 79 12 = dt 79 12)) ∨ (r = some (.inl 1) ∧ (RSX 1 b n i dt2 1 ((gB_ (KF 1 b n) (VF b n) j) i)) ∧ (dt 79 15 + dt2 79 11 ≤ dt2 79 15 + dt 79 11) ∧ (dt 79 11 + 1 ≤ dt2 79 11) ∧ (dt2 79 15 ≤ 500) ∧ (RXD dt dt2 ((rB (KF 1 b n) (VF b n) j) i)) ∧ (dt2 79 2 = dt 79 2) ∧ (dt2 79 9 = dt 79 9) ∧ (dt2 79 10 = dt 79 10) ∧ (dt2 79 12 = dt 79 12) ∧ (dt2 79 17 = dt 79 17) ∧ (dt2 79 20 = dt 79 20)))))   (h_p0 : dt 79 9 = 1) (h_p1 : dt 79 11 ≤ dt 79 15) (h_p2 : dt 79 20 + (((j + 1) : Nat) : Int) = 8) (h_p3 : 3 * j ≤ d) : GO (am_XX L xs sio) (d + 13) 170 0 [some (.inr (.inr (some 79))), none] [] (SH, dt) (fun r w2 => ∃ dt2 : Nat → Nat → Int, w2 = (SH, dt2) ∧ InvC dt2 ∧ Fr [79, 84] dt dt2 ∧ ((r = some (.inl 0) ∧ (RSX 1 b n i dt2 0 ((gC (KF 1 b n) (VF b n) (j + 1)) i)) ∧ (dt2 79 2 = dt 79 2) ∧ (dt2 79 9 = dt 79 9) ∧ (dt2 79 10 = dt 79 10) ∧ (dt2 79 12 = dt 79 12)) ∨ (r = some (.inl 1) ∧ (RSX 1 b n i dt2 1 ((gC (KF 1 b n) (VF b n) (j + 1)) i)) ∧ (dt 79 15 + dt2 79 11 ≤ dt2 79 15 + dt 79 11) ∧ (dt 79 11 + 1 ≤ dt2 79 11) ∧ (dt2 79 15 ≤ 500) ∧ (RXD dt dt2 ((rC (KF 1 b n) (VF b n) (j + 1)) i)) ∧ (dt2 79 2 = dt 79 2) ∧ (dt2 79 9 = dt 79 9) ∧ (dt2 79 10 = dt 79 10) ∧ (dt2 79 12 = dt 79 12) ∧ (dt2 79 17 = dt 79 17) ∧ (dt2 79 20 = dt 79 20)))) := by
  have hF : Fr [79, 84] dt dt := Fr_refl
  have r1 : 0 ≤ dt 79 15 ∧ dt 79 15 ≤ 500 := InvC_get hI 79 15 rfl rfl
  have r2 : 0 ≤ dt 79 11 ∧ dt 79 11 ≤ 510 := InvC_get hI 79 11 rfl rfl
  have r3 : 0 ≤ dt 79 10 ∧ dt 79 10 ≤ 24 := InvC_get hI 79 10 rfl rfl
  have r4 : 0 ≤ dt 79 20 ∧ dt 79 20 ≤ 8 := InvC_get hI 79 20 rfl rfl
  have cr0 := hid (CUR_R hc (.inr rfl))
  have cd0 := CUR_d (hc)
  have cb0 := hid (CUR_b hc)
  have cv0 := hid (CUR_v hc)
  have ck0 := hid (KZ_lt (i := i) hz)
  have c10 := hc.1
  have r5 : (-2147483648) ≤ dt 79 14 ∧ dt 79 14 ≤ 2147483647 := InvC_get hI 79 14 rfl rfl
  have u9_ := hid (And.intro (unhid cr0) (And.intro (unhid cb0) (And.intro (unhid cv0) (unhid ck0))))
  refine go_ifq PM170 (k := 3) (p1 := 44) (p2 := 9) (L' := [some (.inr (.inr (some 79))), none]) (st' := []) (w' := (SH, dt)) rfl (c_ne (a := dt 79 14) (b := 6) (by first | exact bnd r5 (by decide) (by decide) | exact ⟨by fail, by fail⟩) ⟨by decide, by decide⟩) (fun c6 => ?_) (fun c6 => ?_)
  · skip
    replace c6 := hid c6
    have u10_ := hid (And.intro (unhid cr0) (And.intro (unhid cb0) (And.intro (unhid cv0) (And.intro (unhid ck0) (unhid c6)))))
    refine go_ifq PM170 (k := 3) (p1 := 92) (p2 := 54) (L' := [some (.inr (.inr (some 79))), none]) (st' := []) (w' := (SH, dt)) rfl (c_ne (a := dt 79 14) (b := 140) (by first | exact bnd r5 (by decide) (by decide) | exact ⟨by fail, by fail⟩) ⟨by decide, by decide⟩) (fun c7 => ?_) (fun c7 => ?_)
    · skip
      replace c7 := hid c7
      refine go_toq PM170 (k := 1) (pc' := 93) (L' := [some (.inr (.inr (some 79))), none]) (st' := [.inr (.inr (some 79))]) (w' := (SH, dt)) rfl ?_
      have u11_ := hid (And.intro (unhid cr0) (And.intro (unhid cb0) (And.intro (unhid cv0) (And.intro (unhid ck0) (And.intro (unhid c6) (unhid c7))))))
      refine go_callq PM170 PM165 (Q' := _) rfl rfl rfl rfl (sp_X6_sumUp_g L xs sio (d + 3) dt hI b n t i (by first | exact hbb | (rw [show dt 85 = dt 85 from funext (hF 85 (by decide)), show dt 79 12 = dt 79 12 by first | with_reducible assumption | exact unhid (by with_reducible assumption) | fail]; exact hbb)) (by first | with_reducible assumption | exact unhid (by with_reducible assumption) | exact Eq.trans (by with_reducible assumption) hnn | fail) hz ht hc hi hn5  (by first | exact True.intro | with_reducible assumption | exact unhid (by with_reducible assumption) | rfl | fail | trivial) (by first | exact True.intro | with_reducible assumption | exact unhid (by with_reducible assumption) | rfl | fail | trivial)) ?_
      rintro _ _ ⟨dt9, rfl, hI10, hF11, h8⟩
      refine ⟨rfl, ?_⟩
      have hF12 : Fr [79, 84] dt dt9 := Fr_tr hF hF11 (by decide)
      rcases h8 with ⟨rfl, h8⟩ | ⟨rfl, h8⟩
      · skip
        obtain ⟨h8_0, h8_1, h8_2, h8_3, h8_4⟩ := h8
        have w13 : dt9 79 2 = dt 79 2 := h8_1
        have w14 : dt9 79 9 = dt 79 9 := h8_2
        have w15 : dt9 79 10 = dt 79 10 := h8_3
        have w16 : dt9 79 12 = dt 79 12 := h8_4
        have fl17 := RSX_0 h8_0 rfl
        have fe18 : (gC (KF 1 b n) (VF b n) (j + 1)) i = (gE (KF 1 b n) (VF b n)) i := (rfl : (gC (KF 1 b n) (VF b n) (j + 1)) i = (gC (KF 1 b n) (VF b n) (j + 1)) i).trans ((show (gC (KF 1 b n) (VF b n) (j + 1)) i = gB ((gE (KF 1 b n) (VF b n)) i) (gR1 (KF 1 b n) (VF b n)) by exact (gC_1 (by (have z_ := unhid u11_; omega)) (by (have z_ := unhid u11_; omega))).trans gC1_R).trans (gB_no fl17.1))
        clear h8_1 h8_2 h8_3 h8_4
        refine go_retq PM170 (k := 2) (r := some (.inl 0)) (w1 := (SH, dt9)) rfl ?_
        exact ⟨dt9, rfl, hI10, hF12, (Or.inl ⟨rfl, ⟨by first | exact RSX_f fe18 fl17 (by first | rfl | with_reducible assumption | exact unhid (by with_reducible assumption) | fail) (by first | rfl | with_reducible assumption | exact unhid (by with_reducible assumption) | fail) | exact RSX_no (k := 1) (j := i) ((rfl : (gC (KF 1 b n) (VF b n) (j + 1)) i = (gC (KF 1 b n) (VF b n) (j + 1)) i).trans (by show gR1 _ _ _ = _; unfold gR1; rw [if_neg (by fail)])) (by decide) (by fail) (by show _ = ((TP b n i : Nat) : Int); fail), by first | exact True.intro | with_reducible assumption | exact unhid (by with_reducible assumption) | rfl | fail | trivial, by first | exact True.intro | with_reducible assumption | exact unhid (by with_reducible assumption) | rfl | fail | trivial, by first | exact True.intro | with_reducible assumption | exact unhid (by with_reducible assumption) | rfl | fail | trivial, by first | exact True.intro | with_reducible assumption | exact unhid (by with_reducible assumption) | rfl | fail | trivial⟩⟩)⟩
      · skip
        obtain ⟨h8_0, h8_1, h8_2, h8_3, h8_4, h8_5, h8_6, h8_7, h8_8, h8_9, h8_10⟩ := h8
        have w19 : dt9 79 2 = dt 79 2 := h8_5
        have w20 : dt9 79 9 = dt 79 9 := h8_6
        have w21 : dt9 79 10 = dt 79 10 := h8_7
        have w22 : dt9 79 12 = dt 79 12 := h8_8
        have w23 : dt9 79 17 = dt 79 17 := h8_9
        have w24 : dt9 79 20 = dt 79 20 := h8_10
        obtain ⟨j25, ej26, hc27⟩ := RSX_1 h8_0 (by decide)
        have hp28 : (gC (KF 1 b n) (VF b n) (j + 1)) i = (gR1 (KF 1 b n) (VF b n)) j25 := (rfl : (gC (KF 1 b n) (VF b n) (j + 1)) i = (gC (KF 1 b n) (VF b n) (j + 1)) i).trans ((show (gC (KF 1 b n) (VF b n) (j + 1)) i = gB ((gE (KF 1 b n) (VF b n)) i) (gR1 (KF 1 b n) (VF b n)) by exact (gC_1 (by (have z_ := unhid u11_; omega)) (by (have z_ := unhid u11_; omega))).trans gC1_R).trans (by rw [ej26]; exact gB_0))
        have hi29 : j25 ≤ t := by have z := gE_M (K := (KF 1 b n)) (V := (VF b n)) (i := i) hz; rw [ej26] at z; have y := z rfl; simp only at y; omega
        have Q30 : RQ (rC (KF 1 b n) (VF b n) (j + 1)) (fun q_ => rE (KF 1 b n) (VF b n) (q_ + 1) ++ [opc ((KF 1 b n) q_)]) dt dt9 i j25 := RQ_st RQ_0 (by omega) h8_4 (by have y_ := eE1_j (K := (KF 1 b n)) (V := (VF b n)) ej26; exact (rC_1 (by (have z_ := unhid u11_; omega)) (by (have z_ := unhid u11_; omega))).trans (by unfold rC1; rw [y_]))
        clear cr0 cb0 cd0 cv0 ck0
        have cr31 := hid (CUR_R hc27 (.inr rfl))
        have cd32 := CUR_d (hc27)
        have cb32 := hid (CUR_b hc27)
        have cv33 := hid (CUR_v hc27)
        have ck34 := hid (KZ_lt (i := j25) hz)
        have c135 := (hc27).1
        have ci36 := hi29
        clear h8_5 h8_6 h8_7 h8_8 h8_9 h8_10
        have r37 : (-2147483648) ≤ dt9 79 14 ∧ dt9 79 14 ≤ 2147483647 := InvC_get hI10 79 14 rfl rfl
        have u12_ := hid (And.intro (unhid c6) (And.intro (unhid c7) (And.intro (unhid cr31) (And.intro (unhid cb32) (And.intro (unhid cv33) (unhid ck34))))))
        refine go_ifq PM170 (k := 4) (p1 := 116) (p2 := 111) (L' := [some (.inr (.inr (some 79))), none]) (st' := []) (w' := (SH, dt9)) rfl (c_ne (a := dt9 79 14) (b := 160) (by first | exact bnd r37 (by decide) (by decide) | exact ⟨by fail, by fail⟩) ⟨by decide, by decide⟩) (fun c38 => ?_) (fun c38 => ?_)
        · skip
          replace c38 := hid c38
          have u13_ := hid (And.intro (unhid c6) (And.intro (unhid c7) (And.intro (unhid cr31) (And.intro (unhid cb32) (And.intro (unhid cv33) (And.intro (unhid ck34) (unhid c38)))))))
          refine go_ifq PM170 (k := 3) (p1 := 131) (p2 := 126) (L' := [some (.inr (.inr (some 79))), none]) (st' := []) (w' := (SH, dt9)) rfl (c_ne (a := dt9 79 14) (b := 161) (by first | exact bnd r37 (by decide) (by decide) | exact ⟨by fail, by fail⟩) ⟨by decide, by decide⟩) (fun c39 => ?_) (fun c39 => ?_)
          · skip
            replace c39 := hid c39
            have u14_ := hid (And.intro (unhid c6) (And.intro (unhid c7) (And.intro (unhid cr31) (And.intro (unhid cb32) (And.intro (unhid cv33) (And.intro (unhid ck34) (And.intro (unhid c38) (unhid c39))))))))
            refine go_ifq PM170 (k := 3) (p1 := 146) (p2 := 141) (L' := [some (.inr (.inr (some 79))), none]) (st' := []) (w' := (SH, dt9)) rfl (c_ne (a := dt9 79 14) (b := 162) (by first | exact bnd r37 (by decide) (by decide) | exact ⟨by fail, by fail⟩) ⟨by decide, by decide⟩) (fun c40 => ?_) (fun c40 => ?_)
            · skip
              replace c40 := hid c40
              refine go_toq PM170 (k := 7) (pc' := 155) (L' := [some (.inr (.inr (some 79))), some (.inl (-1))]) (st' := [.inl 1, .inr (.inr (some 79))]) (w' := (SH, dt9)) rfl ?_
              refine go_callq PM170 PM160 (Q' := _) rfl rfl rfl rfl (sp_X6_bad_g L xs sio (d + 12) dt9 hI10  1 ⟨by decide, by decide⟩ ) ?_
              rintro _ _ ⟨dt42, rfl, hI43, hF44, h41⟩
              refine ⟨rfl, ?_⟩
              have hF45 : Fr [79, 84] dt dt42 := Fr_tr hF12 hF44 (by decide)
              rcases h41 with ⟨rfl, h41⟩
              obtain ⟨h41_0, h41_1, h41_2, h41_3, h41_4, h41_5, h41_6, h41_7, h41_8, h41_9, h41_10, h41_11⟩ := h41
              have w46 : dt42 79 2 = dt 79 2 := h41_2.trans w19
              have w47 : dt42 79 9 = dt 79 9 := h41_3.trans w20
              have w48 : dt42 79 10 = dt 79 10 := h41_4.trans w21
              have w49 : dt42 79 11 = dt9 79 11 := h41_5
              have w50 : dt42 79 12 = dt 79 12 := h41_6.trans w22
              have w51 : dt42 79 13 = dt9 79 13 := h41_7
              have w52 : dt42 79 14 = dt9 79 14 := h41_8
              have w53 : dt42 79 15 = dt9 79 15 := h41_9
              have w54 : dt42 79 16 = dt9 79 16 := h41_10
              have w55 : dt42 79 20 = dt 79 20 := h41_11.trans w24
              have u16_ := hid (And.intro (unhid c6) (And.intro (unhid c7) (And.intro (unhid cr31) (And.intro (unhid cb32) (And.intro (unhid cv33) (And.intro (unhid ck34) (And.intro (unhid c38) (And.intro (unhid c39) (unhid c40)))))))))
              have hc56 : CUR 1 b n dt42 j25 := CUR_sm hc27 (by first | with_reducible assumption | exact unhid (by with_reducible assumption) | rfl | fail) (by first | with_reducible assumption | exact unhid (by with_reducible assumption) | rfl | fail) (by first | with_reducible assumption | exact unhid (by with_reducible assumption) | rfl | fail) (by first | with_reducible assumption | exact unhid (by with_reducible assumption) | rfl | fail)
              clear h41_2 w19 h41_3 w20 h41_4 h41_5 h41_6 w22 h41_7 h41_8 h41_9 h41_10 h41_11 w24
              refine go_retq PM170 (k := 0) (r := some (.inl 0)) (w1 := (SH, dt42)) rfl ?_
              exact ⟨dt42, rfl, hI43, hF45, (Or.inl ⟨rfl, ⟨by first | exact RSX_f hI hI (by first | rfl | with_reducible assumption | exact unhid (by with_reducible assumption) | fail) (by first | rfl | with_reducible assumption | exact unhid (by with_reducible assumption) | fail) | exact RSX_no (k := 1) (j := j25) (hp28.trans (by show gR1 _ _ _ = _; unfold gR1; rw [if_neg (by (have z_ := unhid u16_; omega))])) (by decide) (by omega) (by show _ = ((TP b n j25 : Nat) : Int); omega), by first | exact True.intro | with_reducible assumption | exact unhid (by with_reducible assumption) | rfl | fail | trivial, by first | exact True.intro | with_reducible assumption | exact unhid (by with_reducible assumption) | rfl | fail | trivial, by first | exact True.intro | with_reducible assumption | exact unhid (by with_reducible assumption) | rfl | fail | trivial, by first | exact True.intro | with_reducible assumption | exact unhid (by with_reducible assumption) | rfl | fail | trivial⟩⟩)⟩
            · skip
              refine go_toq PM170 (k := 7) (pc' := 160) (L' := [some (.inr (.inr (some 79))), some (.inl 13)]) (st' := [.inr (.inr (some 79))]) (w' := (SH, dt9)) rfl ?_
              refine go_callq PM170 PM159 (Q' := _) rfl rfl rfl rfl (sp_X6_next0_p1 L xs sio (d + 6) dt9 hI10   (by first | exact True.intro | with_reducible assumption | exact unhid (by with_reducible assumption) | rfl | omega | trivial) (by first | exact True.intro | with_reducible assumption | exact unhid (by with_reducible assumption) | rfl | omega | trivial)) ?_
              rintro _ _ ⟨dt58, rfl, hI59, hF60, h57⟩
              refine ⟨rfl, ?_⟩
              have hF61 : Fr [79, 84] dt dt58 := Fr_tr hF12 hF60 (by decide)
              rcases h57 with ⟨rfl, h57⟩
              obtain ⟨h57_0, h57_1, h57_2, h57_3, h57_4, h57_5, h57_6, h57_7, h57_8⟩ := h57
              have w62 : dt58 79 2 = dt 79 2 := h57_2.trans w19
              have w63 : dt58 79 9 = dt 79 9 := h57_3.trans w20
              have w64 : dt58 79 10 = dt 79 10 := h57_4.trans w21
              have w65 : dt58 79 11 = dt9 79 11 := h57_5
              have w66 : dt58 79 12 = dt 79 12 := h57_6.trans w22
              have w67 : dt58 79 17 = dt 79 17 := h57_7.trans w23
              have w68 : dt58 79 20 = dt 79 20 := h57_8.trans w24
              have hq69 := h57_0
              rw [show dt9 85 = dt 85 from funext (hF12 85 (by decide)), show dt9 79 12 = dt 79 12 by first | with_reducible assumption | exact unhid (by with_reducible assumption) | fail, hbb, show (dt 79 12).toNat = n from (congrArg Int.toNat hnn).trans (Int.toNat_natCast n)] at hq69
              have hc70 : CUR 1 b n dt58 (j25 + 1) := CUR_n hc27 hq69
              have hi71 : j25 + 1 ≤ t := by (have z_ := unhid u14_; omega)
              have av72 : dt9 79 15 + 1 ≤ dt9 79 13 := by (have z_ := unhid u14_; omega)
              have kk_73 : KF 1 b n j25 = 62 := by (have z_ := unhid u14_; omega)
              have hp74 : (gC (KF 1 b n) (VF b n) (j + 1)) i = (gE (KF 1 b n) (VF b n)) (j25 + 1) := hp28.trans (by show gR1 _ _ j25 = _; unfold gR1; rw [if_pos (by (have z_ := unhid u14_; omega))])
              clear cr31 cb32 cd32 cv33 ck34
              have cr75 := hid (CUR_R hc70 (.inr rfl))
              have cd76 := CUR_d (hc70)
              have cb76 := hid (CUR_b hc70)
              have cv77 := hid (CUR_v hc70)
              have ck78 := hid (KZ_lt (i := (j25 + 1)) hz)
              have c179 := (hc70).1
              have ci80 := hi71
              clear h57_2 w19 h57_3 w20 h57_4 h57_5 h57_6 w22 h57_7 w23 h57_8 w24
              refine go_toq PM170 (k := 1) (pc' := 164) (L' := [some (.inr (.inr (some 79))), some (.inl 13)]) (st' := [.inr (.inr (some 79))]) (w' := (SH, dt58)) rfl ?_
              refine go_callq PM170 PM165 (Q' := _) rfl rfl rfl rfl (sp_X6_sumUp_g L xs sio (d + 3) dt58 hI59 b n t (j25 + 1) (by first | exact hbb | (rw [show dt58 85 = dt 85 from funext (hF61 85 (by decide)), show dt58 79 12 = dt 79 12 by first | with_reducible assumption | exact unhid (by with_reducible assumption) | fail]; exact hbb)) (by first | with_reducible assumption | exact unhid (by with_reducible assumption) | exact Eq.trans (by with_reducible assumption) hnn | fail) hz ht hc70 hi71 hn5  (by first | exact True.intro | with_reducible assumption | exact unhid (by with_reducible assumption) | rfl | omega | trivial) (by first | exact True.intro | with_reducible assumption | exact unhid (by with_reducible assumption) | rfl | omega | trivial)) ?_
              rintro _ _ ⟨dt82, rfl, hI83, hF84, h81⟩
              refine ⟨rfl, ?_⟩
              have hF85 : Fr [79, 84] dt dt82 := Fr_tr hF61 hF84 (by decide)
              rcases h81 with ⟨rfl, h81⟩ | ⟨rfl, h81⟩
              · skip
                obtain ⟨h81_0, h81_1, h81_2, h81_3, h81_4⟩ := h81
                have w86 : dt82 79 2 = dt 79 2 := h81_1.trans w62
                have w87 : dt82 79 9 = dt 79 9 := h81_2.trans w63
                have w88 : dt82 79 10 = dt 79 10 := h81_3.trans w64
                have w89 : dt82 79 12 = dt 79 12 := h81_4.trans w66
                have fl90 := RSX_0 h81_0 rfl
                have fe91 : (gC (KF 1 b n) (VF b n) (j + 1)) i = (gE (KF 1 b n) (VF b n)) (j25 + 1) := hp74.trans ((show (gE (KF 1 b n) (VF b n)) (j25 + 1) = gB ((gE (KF 1 b n) (VF b n)) (j25 + 1)) gOk by exact gB_id.symm).trans (gB_no fl90.1))
                clear h81_1 w62 h81_2 w63 h81_3 h81_4 w66
                refine go_retq PM170 (k := 2) (r := some (.inl 0)) (w1 := (SH, dt82)) rfl ?_
                exact ⟨dt82, rfl, hI83, hF85, (Or.inl ⟨rfl, ⟨by first | exact RSX_f fe91 fl90 (by first | rfl | with_reducible assumption | exact unhid (by with_reducible assumption) | fail) (by first | rfl | with_reducible assumption | exact unhid (by with_reducible assumption) | fail) | exact RSX_no (k := 1) (j := (j25 + 1)) (hp74.trans (by show gR1 _ _ _ = _; unfold gR1; rw [if_neg (by fail)])) (by decide) (by fail) (by show _ = ((TP b n (j25 + 1) : Nat) : Int); fail), by first | exact True.intro | with_reducible assumption | exact unhid (by with_reducible assumption) | rfl | fail | trivial, by first | exact True.intro | with_reducible assumption | exact unhid (by with_reducible assumption) | rfl | fail | trivial, by first | exact True.intro | with_reducible assumption | exact unhid (by with_reducible assumption) | rfl | fail | trivial, by first | exact True.intro | with_reducible assumption | exact unhid (by with_reducible assumption) | rfl | fail | trivial⟩⟩)⟩
              · skip
                obtain ⟨h81_0, h81_1, h81_2, h81_3, h81_4, h81_5, h81_6, h81_7, h81_8, h81_9, h81_10⟩ := h81
                have w92 : dt82 79 2 = dt 79 2 := h81_5.trans w62
                have w93 : dt82 79 9 = dt 79 9 := h81_6.trans w63
                have w94 : dt82 79 10 = dt 79 10 := h81_7.trans w64
                have w95 : dt82 79 12 = dt 79 12 := h81_8.trans w66
                have w96 : dt82 79 17 = dt 79 17 := h81_9.trans w67
                have w97 : dt82 79 20 = dt 79 20 := h81_10.trans w68
                obtain ⟨j98, ej99, hc100⟩ := RSX_1 h81_0 (by decide)
                have hp101 : (gC (KF 1 b n) (VF b n) (j + 1)) i = gOk j98 := hp74.trans ((show (gE (KF 1 b n) (VF b n)) (j25 + 1) = gB ((gE (KF 1 b n) (VF b n)) (j25 + 1)) gOk by exact gB_id.symm).trans (by rw [ej99]; exact gB_0))
                have hi102 : j98 ≤ t := by have z := gE_M (K := (KF 1 b n)) (V := (VF b n)) (i := (j25 + 1)) hz; rw [ej99] at z; have y := z rfl; simp only at y; omega
                have Q103 : RQ (rC (KF 1 b n) (VF b n) (j + 1)) (fun _ => [opc ((KF 1 b n) j25)]) dt dt82 i j98 := RQ_st Q30 (by omega) (RXD_l (by omega) (fun j => hF60 84 (by decide) j) h81_4) (by rfl)
                clear cr75 cb76 cd76 cv77 ck78
                have cr104 := hid (CUR_R hc100 (.inr rfl))
                have cd105 := CUR_d (hc100)
                have cb105 := hid (CUR_b hc100)
                have cv106 := hid (CUR_v hc100)
                have ck107 := hid (KZ_lt (i := j98) hz)
                have c1108 := (hc100).1
                have ci109 := hi102
                clear h81_5 w62 h81_6 w63 h81_7 h81_8 w66 h81_9 w67 h81_10 w68
                refine go_toq PM170 (k := 4) (pc' := 175) (L' := [some (.inr (.inr (some 79))), some (.inl 13)]) (st' := [.inl 0, .inl 13, .inr (.inr (some 79))]) (w' := (SH, dt82)) rfl ?_
                refine go_callq PM170 PM163 (Q' := _) rfl rfl rfl rfl (sp_X6_lay_g L xs sio (d + 12) dt82 hI83  13 ⟨by decide, by decide⟩ 0 ⟨by decide, by decide⟩ (by first | exact True.intro | with_reducible assumption | exact unhid (by with_reducible assumption) | rfl | omega | trivial) (by first | exact True.intro | with_reducible assumption | exact unhid (by with_reducible assumption) | rfl | omega | trivial)) ?_
                rintro _ _ ⟨dt111, rfl, hI112, hF113, h110⟩
                refine ⟨rfl, ?_⟩
                have hF114 : Fr [79, 84] dt dt111 := Fr_tr hF85 hF113 (by decide)
                rcases h110 with ⟨rfl, h110⟩
                obtain ⟨h110_0, h110_1, h110_2, h110_3, h110_4, h110_5, h110_6, h110_7, h110_8, h110_9, h110_10, h110_11⟩ := h110
                have w115 : dt111 79 2 = dt 79 2 := h110_2.trans w92
                have w116 : dt111 79 9 = dt 79 9 := h110_3.trans w93
                have w117 : dt111 79 10 = dt 79 10 := h110_4.trans w94
                have w118 : dt111 79 12 = dt 79 12 := h110_5.trans w95
                have w119 : dt111 79 13 = dt82 79 13 := h110_6
                have w120 : dt111 79 14 = dt82 79 14 := h110_7
                have w121 : dt111 79 15 = dt82 79 15 := h110_8
                have w122 : dt111 79 16 = dt82 79 16 := h110_9
                have w123 : dt111 79 17 = dt 79 17 := h110_10.trans w96
                have w124 : dt111 79 20 = dt 79 20 := h110_11.trans w97
                have Q125 : RQ (rC (KF 1 b n) (VF b n) (j + 1)) eNl dt dt111 i j98 := RQ_st Q103 (by omega) h110_1 (by show [opc ((KF 1 b n) j25)] = stx 13 0 ++ []; unfold opc; first | (rw [if_pos (by fail)]; rfl) | (rw [if_neg (by omega), if_pos (by fail)]; rfl) | (rw [if_neg (by omega), if_neg (by omega)]; rfl))
                have hc126 : CUR 1 b n dt111 j98 := CUR_sm hc100 (by first | with_reducible assumption | exact unhid (by with_reducible assumption) | rfl | fail) (by first | with_reducible assumption | exact unhid (by with_reducible assumption) | rfl | fail) (by first | with_reducible assumption | exact unhid (by with_reducible assumption) | rfl | fail) (by first | with_reducible assumption | exact unhid (by with_reducible assumption) | rfl | fail)
                clear h110_2 w92 h110_3 w93 h110_4 h110_5 w95 h110_6 h110_7 h110_8 h110_9 h110_10 w96 h110_11 w97
                refine go_retq PM170 (k := 1) (r := some (.inl 1)) (w1 := (SH, dt111)) rfl ?_
                exact ⟨dt111, rfl, hI112, hF114, (Or.inr ⟨rfl, ⟨by exact RSX_ok (hp101.trans (by rfl)) hc126, by first | exact True.intro | with_reducible assumption | exact unhid (by with_reducible assumption) | rfl | omega | trivial, by first | exact True.intro | with_reducible assumption | exact unhid (by with_reducible assumption) | rfl | omega | trivial, by exact (InvC_get (by assumption) 79 15 rfl rfl).2, by exact RQ_e Q125, by first | exact True.intro | with_reducible assumption | exact unhid (by with_reducible assumption) | rfl | fail | trivial, by first | exact True.intro | with_reducible assumption | exact unhid (by with_reducible assumption) | rfl | fail | trivial, by first | exact True.intro | with_reducible assumption | exact unhid (by with_reducible assumption) | rfl | fail | trivial, by first | exact True.intro | with_reducible assumption | exact unhid (by with_reducible assumption) | rfl | fail | trivial, by first | exact True.intro | with_reducible assumption | exact unhid (by with_reducible assumption) | rfl | fail | trivial, by first | exact True.intro | with_reducible assumption | exact unhid (by with_reducible assumption) | rfl | fail | trivial⟩⟩)⟩
          · skip
            refine go_toq PM170 (k := 7) (pc' := 160) (L' := [some (.inr (.inr (some 79))), some (.inl 12)]) (st' := [.inr (.inr (some 79))]) (w' := (SH, dt9)) rfl ?_
            refine go_callq PM170 PM159 (Q' := _) rfl rfl rfl rfl (sp_X6_next0_p1 L xs sio (d + 6) dt9 hI10   (by first | exact True.intro | with_reducible assumption | exact unhid (by with_reducible assumption) | rfl | omega | trivial) (by first | exact True.intro | with_reducible assumption | exact unhid (by with_reducible assumption) | rfl | omega | trivial)) ?_
            rintro _ _ ⟨dt128, rfl, hI129, hF130, h127⟩
            refine ⟨rfl, ?_⟩
            have hF131 : Fr [79, 84] dt dt128 := Fr_tr hF12 hF130 (by decide)
            rcases h127 with ⟨rfl, h127⟩
            obtain ⟨h127_0, h127_1, h127_2, h127_3, h127_4, h127_5, h127_6, h127_7, h127_8⟩ := h127
            have w132 : dt128 79 2 = dt 79 2 := h127_2.trans w19
            have w133 : dt128 79 9 = dt 79 9 := h127_3.trans w20
            have w134 : dt128 79 10 = dt 79 10 := h127_4.trans w21
            have w135 : dt128 79 11 = dt9 79 11 := h127_5
            have w136 : dt128 79 12 = dt 79 12 := h127_6.trans w22
            have w137 : dt128 79 17 = dt 79 17 := h127_7.trans w23
            have w138 : dt128 79 20 = dt 79 20 := h127_8.trans w24
            have hq139 := h127_0
            rw [show dt9 85 = dt 85 from funext (hF12 85 (by decide)), show dt9 79 12 = dt 79 12 by first | with_reducible assumption | exact unhid (by with_reducible assumption) | fail, hbb, show (dt 79 12).toNat = n from (congrArg Int.toNat hnn).trans (Int.toNat_natCast n)] at hq139
            have hc140 : CUR 1 b n dt128 (j25 + 1) := CUR_n hc27 hq139
            have hi141 : j25 + 1 ≤ t := by (have z_ := unhid u13_; omega)
            have av142 : dt9 79 15 + 1 ≤ dt9 79 13 := by (have z_ := unhid u13_; omega)
            have kk_143 : KF 1 b n j25 = 61 := by (have z_ := unhid u13_; omega)
            have hp144 : (gC (KF 1 b n) (VF b n) (j + 1)) i = (gE (KF 1 b n) (VF b n)) (j25 + 1) := hp28.trans (by show gR1 _ _ j25 = _; unfold gR1; rw [if_pos (by (have z_ := unhid u13_; omega))])
            clear cr31 cb32 cd32 cv33 ck34
            have cr145 := hid (CUR_R hc140 (.inr rfl))
            have cd146 := CUR_d (hc140)
            have cb146 := hid (CUR_b hc140)
            have cv147 := hid (CUR_v hc140)
            have ck148 := hid (KZ_lt (i := (j25 + 1)) hz)
            have c1149 := (hc140).1
            have ci150 := hi141
            clear h127_2 w19 h127_3 w20 h127_4 h127_5 h127_6 w22 h127_7 w23 h127_8 w24
            refine go_toq PM170 (k := 1) (pc' := 164) (L' := [some (.inr (.inr (some 79))), some (.inl 12)]) (st' := [.inr (.inr (some 79))]) (w' := (SH, dt128)) rfl ?_
            refine go_callq PM170 PM165 (Q' := _) rfl rfl rfl rfl (sp_X6_sumUp_g L xs sio (d + 3) dt128 hI129 b n t (j25 + 1) (by first | exact hbb | (rw [show dt128 85 = dt 85 from funext (hF131 85 (by decide)), show dt128 79 12 = dt 79 12 by first | with_reducible assumption | exact unhid (by with_reducible assumption) | fail]; exact hbb)) (by first | with_reducible assumption | exact unhid (by with_reducible assumption) | exact Eq.trans (by with_reducible assumption) hnn | fail) hz ht hc140 hi141 hn5  (by first | exact True.intro | with_reducible assumption | exact unhid (by with_reducible assumption) | rfl | omega | trivial) (by first | exact True.intro | with_reducible assumption | exact unhid (by with_reducible assumption) | rfl | omega | trivial)) ?_
            rintro _ _ ⟨dt152, rfl, hI153, hF154, h151⟩
            refine ⟨rfl, ?_⟩
            have hF155 : Fr [79, 84] dt dt152 := Fr_tr hF131 hF154 (by decide)
            rcases h151 with ⟨rfl, h151⟩ | ⟨rfl, h151⟩
            · skip
              obtain ⟨h151_0, h151_1, h151_2, h151_3, h151_4⟩ := h151
              have w156 : dt152 79 2 = dt 79 2 := h151_1.trans w132
              have w157 : dt152 79 9 = dt 79 9 := h151_2.trans w133
              have w158 : dt152 79 10 = dt 79 10 := h151_3.trans w134
              have w159 : dt152 79 12 = dt 79 12 := h151_4.trans w136
              have fl160 := RSX_0 h151_0 rfl
              have fe161 : (gC (KF 1 b n) (VF b n) (j + 1)) i = (gE (KF 1 b n) (VF b n)) (j25 + 1) := hp144.trans ((show (gE (KF 1 b n) (VF b n)) (j25 + 1) = gB ((gE (KF 1 b n) (VF b n)) (j25 + 1)) gOk by exact gB_id.symm).trans (gB_no fl160.1))
              clear h151_1 w132 h151_2 w133 h151_3 h151_4 w136
              refine go_retq PM170 (k := 2) (r := some (.inl 0)) (w1 := (SH, dt152)) rfl ?_
              exact ⟨dt152, rfl, hI153, hF155, (Or.inl ⟨rfl, ⟨by first | exact RSX_f fe161 fl160 (by first | rfl | with_reducible assumption | exact unhid (by with_reducible assumption) | fail) (by first | rfl | with_reducible assumption | exact unhid (by with_reducible assumption) | fail) | exact RSX_no (k := 1) (j := (j25 + 1)) (hp144.trans (by show gR1 _ _ _ = _; unfold gR1; rw [if_neg (by fail)])) (by decide) (by fail) (by show _ = ((TP b n (j25 + 1) : Nat) : Int); fail), by first | exact True.intro | with_reducible assumption | exact unhid (by with_reducible assumption) | rfl | fail | trivial, by first | exact True.intro | with_reducible assumption | exact unhid (by with_reducible assumption) | rfl | fail | trivial, by first | exact True.intro | with_reducible assumption | exact unhid (by with_reducible assumption) | rfl | fail | trivial, by first | exact True.intro | with_reducible assumption | exact unhid (by with_reducible assumption) | rfl | fail | trivial⟩⟩)⟩
            · skip
              obtain ⟨h151_0, h151_1, h151_2, h151_3, h151_4, h151_5, h151_6, h151_7, h151_8, h151_9, h151_10⟩ := h151
              have w162 : dt152 79 2 = dt 79 2 := h151_5.trans w132
              have w163 : dt152 79 9 = dt 79 9 := h151_6.trans w133
              have w164 : dt152 79 10 = dt 79 10 := h151_7.trans w134
              have w165 : dt152 79 12 = dt 79 12 := h151_8.trans w136
              have w166 : dt152 79 17 = dt 79 17 := h151_9.trans w137
              have w167 : dt152 79 20 = dt 79 20 := h151_10.trans w138
              obtain ⟨j168, ej169, hc170⟩ := RSX_1 h151_0 (by decide)
              have hp171 : (gC (KF 1 b n) (VF b n) (j + 1)) i = gOk j168 := hp144.trans ((show (gE (KF 1 b n) (VF b n)) (j25 + 1) = gB ((gE (KF 1 b n) (VF b n)) (j25 + 1)) gOk by exact gB_id.symm).trans (by rw [ej169]; exact gB_0))
              have hi172 : j168 ≤ t := by have z := gE_M (K := (KF 1 b n)) (V := (VF b n)) (i := (j25 + 1)) hz; rw [ej169] at z; have y := z rfl; simp only at y; omega
              have Q173 : RQ (rC (KF 1 b n) (VF b n) (j + 1)) (fun _ => [opc ((KF 1 b n) j25)]) dt dt152 i j168 := RQ_st Q30 (by omega) (RXD_l (by omega) (fun j => hF130 84 (by decide) j) h151_4) (by rfl)
              clear cr145 cb146 cd146 cv147 ck148
              have cr174 := hid (CUR_R hc170 (.inr rfl))
              have cd175 := CUR_d (hc170)
              have cb175 := hid (CUR_b hc170)
              have cv176 := hid (CUR_v hc170)
              have ck177 := hid (KZ_lt (i := j168) hz)
              have c1178 := (hc170).1
              have ci179 := hi172
              clear h151_5 w132 h151_6 w133 h151_7 h151_8 w136 h151_9 w137 h151_10 w138
              refine go_toq PM170 (k := 4) (pc' := 175) (L' := [some (.inr (.inr (some 79))), some (.inl 12)]) (st' := [.inl 0, .inl 12, .inr (.inr (some 79))]) (w' := (SH, dt152)) rfl ?_
              refine go_callq PM170 PM163 (Q' := _) rfl rfl rfl rfl (sp_X6_lay_g L xs sio (d + 12) dt152 hI153  12 ⟨by decide, by decide⟩ 0 ⟨by decide, by decide⟩ (by first | exact True.intro | with_reducible assumption | exact unhid (by with_reducible assumption) | rfl | omega | trivial) (by first | exact True.intro | with_reducible assumption | exact unhid (by with_reducible assumption) | rfl | omega | trivial)) ?_
              rintro _ _ ⟨dt181, rfl, hI182, hF183, h180⟩
              refine ⟨rfl, ?_⟩
              have hF184 : Fr [79, 84] dt dt181 := Fr_tr hF155 hF183 (by decide)
              rcases h180 with ⟨rfl, h180⟩
              obtain ⟨h180_0, h180_1, h180_2, h180_3, h180_4, h180_5, h180_6, h180_7, h180_8, h180_9, h180_10, h180_11⟩ := h180
              have w185 : dt181 79 2 = dt 79 2 := h180_2.trans w162
              have w186 : dt181 79 9 = dt 79 9 := h180_3.trans w163
              have w187 : dt181 79 10 = dt 79 10 := h180_4.trans w164
              have w188 : dt181 79 12 = dt 79 12 := h180_5.trans w165
              have w189 : dt181 79 13 = dt152 79 13 := h180_6
              have w190 : dt181 79 14 = dt152 79 14 := h180_7
              have w191 : dt181 79 15 = dt152 79 15 := h180_8
              have w192 : dt181 79 16 = dt152 79 16 := h180_9
              have w193 : dt181 79 17 = dt 79 17 := h180_10.trans w166
              have w194 : dt181 79 20 = dt 79 20 := h180_11.trans w167
              have Q195 : RQ (rC (KF 1 b n) (VF b n) (j + 1)) eNl dt dt181 i j168 := RQ_st Q173 (by omega) h180_1 (by show [opc ((KF 1 b n) j25)] = stx 12 0 ++ []; unfold opc; first | (rw [if_pos (by fail)]; rfl) | (rw [if_neg (by omega), if_pos (by omega)]; rfl) | (rw [if_neg (by fail), if_neg (by fail)]; rfl))
              have hc196 : CUR 1 b n dt181 j168 := CUR_sm hc170 (by first | with_reducible assumption | exact unhid (by with_reducible assumption) | rfl | fail) (by first | with_reducible assumption | exact unhid (by with_reducible assumption) | rfl | fail) (by first | with_reducible assumption | exact unhid (by with_reducible assumption) | rfl | fail) (by first | with_reducible assumption | exact unhid (by with_reducible assumption) | rfl | fail)
              clear h180_2 w162 h180_3 w163 h180_4 h180_5 w165 h180_6 h180_7 h180_8 h180_9 h180_10 w166 h180_11 w167
              refine go_retq PM170 (k := 1) (r := some (.inl 1)) (w1 := (SH, dt181)) rfl ?_
              exact ⟨dt181, rfl, hI182, hF184, (Or.inr ⟨rfl, ⟨by exact RSX_ok (hp171.trans (by rfl)) hc196, by first | exact True.intro | with_reducible assumption | exact unhid (by with_reducible assumption) | rfl | omega | trivial, by first | exact True.intro | with_reducible assumption | exact unhid (by with_reducible assumption) | rfl | omega | trivial, by exact (InvC_get (by assumption) 79 15 rfl rfl).2, by exact RQ_e Q195, by first | exact True.intro | with_reducible assumption | exact unhid (by with_reducible assumption) | rfl | fail | trivial, by first | exact True.intro | with_reducible assumption | exact unhid (by with_reducible assumption) | rfl | fail | trivial, by first | exact True.intro | with_reducible assumption | exact unhid (by with_reducible assumption) | rfl | fail | trivial, by first | exact True.intro | with_reducible assumption | exact unhid (by with_reducible assumption) | rfl | fail | trivial, by first | exact True.intro | with_reducible assumption | exact unhid (by with_reducible assumption) | rfl | fail | trivial, by first | exact True.intro | with_reducible assumption | exact unhid (by with_reducible assumption) | rfl | fail | trivial⟩⟩)⟩
        · skip
          refine go_toq PM170 (k := 7) (pc' := 160) (L' := [some (.inr (.inr (some 79))), some (.inl 11)]) (st' := [.inr (.inr (some 79))]) (w' := (SH, dt9)) rfl ?_
          refine go_callq PM170 PM159 (Q' := _) rfl rfl rfl rfl (sp_X6_next0_p1 L xs sio (d + 6) dt9 hI10   (by first | exact True.intro | with_reducible assumption | exact unhid (by with_reducible assumption) | rfl | omega | trivial) (by first | exact True.intro | with_reducible assumption | exact unhid (by with_reducible assumption) | rfl | omega | trivial)) ?_
          rintro _ _ ⟨dt198, rfl, hI199, hF200, h197⟩
          refine ⟨rfl, ?_⟩
          have hF201 : Fr [79, 84] dt dt198 := Fr_tr hF12 hF200 (by decide)
          rcases h197 with ⟨rfl, h197⟩
          obtain ⟨h197_0, h197_1, h197_2, h197_3, h197_4, h197_5, h197_6, h197_7, h197_8⟩ := h197
          have w202 : dt198 79 2 = dt 79 2 := h197_2.trans w19
          have w203 : dt198 79 9 = dt 79 9 := h197_3.trans w20
          have w204 : dt198 79 10 = dt 79 10 := h197_4.trans w21
          have w205 : dt198 79 11 = dt9 79 11 := h197_5
          have w206 : dt198 79 12 = dt 79 12 := h197_6.trans w22
          have w207 : dt198 79 17 = dt 79 17 := h197_7.trans w23
          have w208 : dt198 79 20 = dt 79 20 := h197_8.trans w24
          have hq209 := h197_0
          rw [show dt9 85 = dt 85 from funext (hF12 85 (by decide)), show dt9 79 12 = dt 79 12 by first | with_reducible assumption | exact unhid (by with_reducible assumption) | fail, hbb, show (dt 79 12).toNat = n from (congrArg Int.toNat hnn).trans (Int.toNat_natCast n)] at hq209
          have hc210 : CUR 1 b n dt198 (j25 + 1) := CUR_n hc27 hq209
          have hi211 : j25 + 1 ≤ t := by (have z_ := unhid u12_; omega)
          have av212 : dt9 79 15 + 1 ≤ dt9 79 13 := by (have z_ := unhid u12_; omega)
          have kk_213 : KF 1 b n j25 = 60 := by (have z_ := unhid u12_; omega)
          have hp214 : (gC (KF 1 b n) (VF b n) (j + 1)) i = (gE (KF 1 b n) (VF b n)) (j25 + 1) := hp28.trans (by show gR1 _ _ j25 = _; unfold gR1; rw [if_pos (by (have z_ := unhid u12_; omega))])
          clear cr31 cb32 cd32 cv33 ck34
          have cr215 := hid (CUR_R hc210 (.inr rfl))
          have cd216 := CUR_d (hc210)
          have cb216 := hid (CUR_b hc210)
          have cv217 := hid (CUR_v hc210)
          have ck218 := hid (KZ_lt (i := (j25 + 1)) hz)
          have c1219 := (hc210).1
          have ci220 := hi211
          clear h197_2 w19 h197_3 w20 h197_4 h197_5 h197_6 w22 h197_7 w23 h197_8 w24
          refine go_toq PM170 (k := 1) (pc' := 164) (L' := [some (.inr (.inr (some 79))), some (.inl 11)]) (st' := [.inr (.inr (some 79))]) (w' := (SH, dt198)) rfl ?_
          refine go_callq PM170 PM165 (Q' := _) rfl rfl rfl rfl (sp_X6_sumUp_g L xs sio (d + 3) dt198 hI199 b n t (j25 + 1) (by first | exact hbb | (rw [show dt198 85 = dt 85 from funext (hF201 85 (by decide)), show dt198 79 12 = dt 79 12 by first | with_reducible assumption | exact unhid (by with_reducible assumption) | fail]; exact hbb)) (by first | with_reducible assumption | exact unhid (by with_reducible assumption) | exact Eq.trans (by with_reducible assumption) hnn | fail) hz ht hc210 hi211 hn5  (by first | exact True.intro | with_reducible assumption | exact unhid (by with_reducible assumption) | rfl | omega | trivial) (by first | exact True.intro | with_reducible assumption | exact unhid (by with_reducible assumption) | rfl | omega | trivial)) ?_
          rintro _ _ ⟨dt222, rfl, hI223, hF224, h221⟩
          refine ⟨rfl, ?_⟩
          have hF225 : Fr [79, 84] dt dt222 := Fr_tr hF201 hF224 (by decide)
          rcases h221 with ⟨rfl, h221⟩ | ⟨rfl, h221⟩
          · skip
            obtain ⟨h221_0, h221_1, h221_2, h221_3, h221_4⟩ := h221
            have w226 : dt222 79 2 = dt 79 2 := h221_1.trans w202
            have w227 : dt222 79 9 = dt 79 9 := h221_2.trans w203
            have w228 : dt222 79 10 = dt 79 10 := h221_3.trans w204
            have w229 : dt222 79 12 = dt 79 12 := h221_4.trans w206
            have fl230 := RSX_0 h221_0 rfl
            have fe231 : (gC (KF 1 b n) (VF b n) (j + 1)) i = (gE (KF 1 b n) (VF b n)) (j25 + 1) := hp214.trans ((show (gE (KF 1 b n) (VF b n)) (j25 + 1) = gB ((gE (KF 1 b n) (VF b n)) (j25 + 1)) gOk by exact gB_id.symm).trans (gB_no fl230.1))
            clear h221_1 w202 h221_2 w203 h221_3 h221_4 w206
            refine go_retq PM170 (k := 2) (r := some (.inl 0)) (w1 := (SH, dt222)) rfl ?_
            exact ⟨dt222, rfl, hI223, hF225, (Or.inl ⟨rfl, ⟨by first | exact RSX_f fe231 fl230 (by first | rfl | with_reducible assumption | exact unhid (by with_reducible assumption) | fail) (by first | rfl | with_reducible assumption | exact unhid (by with_reducible assumption) | fail) | exact RSX_no (k := 1) (j := (j25 + 1)) (hp214.trans (by show gR1 _ _ _ = _; unfold gR1; rw [if_neg (by fail)])) (by decide) (by fail) (by show _ = ((TP b n (j25 + 1) : Nat) : Int); fail), by first | exact True.intro | with_reducible assumption | exact unhid (by with_reducible assumption) | rfl | fail | trivial, by first | exact True.intro | with_reducible assumption | exact unhid (by with_reducible assumption) | rfl | fail | trivial, by first | exact True.intro | with_reducible assumption | exact unhid (by with_reducible assumption) | rfl | fail | trivial, by first | exact True.intro | with_reducible assumption | exact unhid (by with_reducible assumption) | rfl | fail | trivial⟩⟩)⟩
          · skip
            obtain ⟨h221_0, h221_1, h221_2, h221_3, h221_4, h221_5, h221_6, h221_7, h221_8, h221_9, h221_10⟩ := h221
            have w232 : dt222 79 2 = dt 79 2 := h221_5.trans w202
            have w233 : dt222 79 9 = dt 79 9 := h221_6.trans w203
            have w234 : dt222 79 10 = dt 79 10 := h221_7.trans w204
            have w235 : dt222 79 12 = dt 79 12 := h221_8.trans w206
            have w236 : dt222 79 17 = dt 79 17 := h221_9.trans w207
            have w237 : dt222 79 20 = dt 79 20 := h221_10.trans w208
            obtain ⟨j238, ej239, hc240⟩ := RSX_1 h221_0 (by decide)
            have hp241 : (gC (KF 1 b n) (VF b n) (j + 1)) i = gOk j238 := hp214.trans ((show (gE (KF 1 b n) (VF b n)) (j25 + 1) = gB ((gE (KF 1 b n) (VF b n)) (j25 + 1)) gOk by exact gB_id.symm).trans (by rw [ej239]; exact gB_0))
            have hi242 : j238 ≤ t := by have z := gE_M (K := (KF 1 b n)) (V := (VF b n)) (i := (j25 + 1)) hz; rw [ej239] at z; have y := z rfl; simp only at y; omega
            have Q243 : RQ (rC (KF 1 b n) (VF b n) (j + 1)) (fun _ => [opc ((KF 1 b n) j25)]) dt dt222 i j238 := RQ_st Q30 (by omega) (RXD_l (by omega) (fun j => hF200 84 (by decide) j) h221_4) (by rfl)
            clear cr215 cb216 cd216 cv217 ck218
            have cr244 := hid (CUR_R hc240 (.inr rfl))
            have cd245 := CUR_d (hc240)
            have cb245 := hid (CUR_b hc240)
            have cv246 := hid (CUR_v hc240)
            have ck247 := hid (KZ_lt (i := j238) hz)
            have c1248 := (hc240).1
            have ci249 := hi242
            clear h221_5 w202 h221_6 w203 h221_7 h221_8 w206 h221_9 w207 h221_10 w208
            refine go_toq PM170 (k := 4) (pc' := 175) (L' := [some (.inr (.inr (some 79))), some (.inl 11)]) (st' := [.inl 0, .inl 11, .inr (.inr (some 79))]) (w' := (SH, dt222)) rfl ?_
            refine go_callq PM170 PM163 (Q' := _) rfl rfl rfl rfl (sp_X6_lay_g L xs sio (d + 12) dt222 hI223  11 ⟨by decide, by decide⟩ 0 ⟨by decide, by decide⟩ (by first | exact True.intro | with_reducible assumption | exact unhid (by with_reducible assumption) | rfl | omega | trivial) (by first | exact True.intro | with_reducible assumption | exact unhid (by with_reducible assumption) | rfl | omega | trivial)) ?_
            rintro _ _ ⟨dt251, rfl, hI252, hF253, h250⟩
            refine ⟨rfl, ?_⟩
            have hF254 : Fr [79, 84] dt dt251 := Fr_tr hF225 hF253 (by decide)
            rcases h250 with ⟨rfl, h250⟩
            obtain ⟨h250_0, h250_1, h250_2, h250_3, h250_4, h250_5, h250_6, h250_7, h250_8, h250_9, h250_10, h250_11⟩ := h250
            have w255 : dt251 79 2 = dt 79 2 := h250_2.trans w232
            have w256 : dt251 79 9 = dt 79 9 := h250_3.trans w233
            have w257 : dt251 79 10 = dt 79 10 := h250_4.trans w234
            have w258 : dt251 79 12 = dt 79 12 := h250_5.trans w235
            have w259 : dt251 79 13 = dt222 79 13 := h250_6
            have w260 : dt251 79 14 = dt222 79 14 := h250_7
            have w261 : dt251 79 15 = dt222 79 15 := h250_8
            have w262 : dt251 79 16 = dt222 79 16 := h250_9
            have w263 : dt251 79 17 = dt 79 17 := h250_10.trans w236
            have w264 : dt251 79 20 = dt 79 20 := h250_11.trans w237
            have Q265 : RQ (rC (KF 1 b n) (VF b n) (j + 1)) eNl dt dt251 i j238 := RQ_st Q243 (by omega) h250_1 (by show [opc ((KF 1 b n) j25)] = stx 11 0 ++ []; unfold opc; first | (rw [if_pos (by omega)]; rfl) | (rw [if_neg (by fail), if_pos (by fail)]; rfl) | (rw [if_neg (by fail), if_neg (by fail)]; rfl))
            have hc266 : CUR 1 b n dt251 j238 := CUR_sm hc240 (by first | with_reducible assumption | exact unhid (by with_reducible assumption) | rfl | fail) (by first | with_reducible assumption | exact unhid (by with_reducible assumption) | rfl | fail) (by first | with_reducible assumption | exact unhid (by with_reducible assumption) | rfl | fail) (by first | with_reducible assumption | exact unhid (by with_reducible assumption) | rfl | fail)
            clear h250_2 w232 h250_3 w233 h250_4 h250_5 w235 h250_6 h250_7 h250_8 h250_9 h250_10 w236 h250_11 w237
            refine go_retq PM170 (k := 1) (r := some (.inl 1)) (w1 := (SH, dt251)) rfl ?_
            exact ⟨dt251, rfl, hI252, hF254, (Or.inr ⟨rfl, ⟨by exact RSX_ok (hp241.trans (by rfl)) hc266, by first | exact True.intro | with_reducible assumption | exact unhid (by with_reducible assumption) | rfl | omega | trivial, by first | exact True.intro | with_reducible assumption | exact unhid (by with_reducible assumption) | rfl | omega | trivial, by exact (InvC_get (by assumption) 79 15 rfl rfl).2, by exact RQ_e Q265, by first | exact True.intro | with_reducible assumption | exact unhid (by with_reducible assumption) | rfl | fail | trivial, by first | exact True.intro | with_reducible assumption | exact unhid (by with_reducible assumption) | rfl | fail | trivial, by first | exact True.intro | with_reducible assumption | exact unhid (by with_reducible assumption) | rfl | fail | trivial, by first | exact True.intro | with_reducible assumption | exact unhid (by with_reducible assumption) | rfl | fail | trivial, by first | exact True.intro | with_reducible assumption | exact unhid (by with_reducible assumption) | rfl | fail | trivial, by first | exact True.intro | with_reducible assumption | exact unhid (by with_reducible assumption) | rfl | fail | trivial⟩⟩)⟩
    · skip
      refine go_toq PM170 (k := 1) (pc' := 55) (L' := [some (.inr (.inr (some 79))), none]) (st' := [.inr (.inr (some 79))]) (w' := (SH, dt)) rfl ?_
      refine go_callq PM170 PM164 (Q' := _) rfl rfl rfl rfl (sp_X6_opens_o L xs sio (d + 5) dt hI b n t i (by first | exact hbb | (rw [show dt 85 = dt 85 from funext (hF 85 (by decide)), show dt 79 12 = dt 79 12 by first | with_reducible assumption | exact unhid (by with_reducible assumption) | fail]; exact hbb)) (by first | with_reducible assumption | exact unhid (by with_reducible assumption) | exact Eq.trans (by with_reducible assumption) hnn | fail) hz ht hc hi hn5  (by first | exact True.intro | with_reducible assumption | exact unhid (by with_reducible assumption) | rfl | fail | trivial) (by first | exact True.intro | with_reducible assumption | exact unhid (by with_reducible assumption) | rfl | omega | trivial) (by first | exact True.intro | with_reducible assumption | exact unhid (by with_reducible assumption) | rfl | omega | trivial)) ?_
      rintro _ _ ⟨dt268, rfl, hI269, hF270, h267⟩
      refine ⟨rfl, ?_⟩
      have hF271 : Fr [79, 84] dt dt268 := Fr_tr hF hF270 (by decide)
      rcases h267 with ⟨rfl, h267⟩
      obtain ⟨h267_0, h267_1, h267_2, h267_3, h267_4, h267_5, h267_6, h267_7, h267_8, h267_9⟩ := h267
      have w272 : dt268 79 2 = dt 79 2 := h267_4
      have w273 : dt268 79 9 = dt 79 9 := h267_5
      have w274 : dt268 79 10 = dt 79 10 := h267_6
      have w275 : dt268 79 11 = dt 79 11 := h267_7
      have w276 : dt268 79 12 = dt 79 12 := h267_8
      have w277 : dt268 79 17 = dt 79 17 := h267_9
      obtain ⟨j278, ej279, hc280⟩ := RSX_1 h267_0 (by decide)
      have hp281 : (gC (KF 1 b n) (VF b n) (j + 1)) i = (fun i => gB (gB_ (KF 1 b n) (VF b n) j i) (gK (KF 1 b n) 41)) j278 := (rfl : (gC (KF 1 b n) (VF b n) (j + 1)) i = (gC (KF 1 b n) (VF b n) (j + 1)) i).trans ((show (gC (KF 1 b n) (VF b n) (j + 1)) i = gB (gOp i) (fun i => gB (gB_ (KF 1 b n) (VF b n) j i) (gK (KF 1 b n) 41)) by exact gC_p (by (have z_ := unhid u10_; omega))).trans (by rw [ej279]; exact gB_0))
      have hi282 : j278 ≤ t := by have z : gOp i = (0, j278) := ej279; have y : i + 1 = j278 := congrArg Prod.snd z; (have z_ := unhid u10_; omega)
      have Q283 : RQ (rC (KF 1 b n) (VF b n) (j + 1)) (rB (KF 1 b n) (VF b n) j) dt dt268 i j278 := RQ_st RQ_0 (by omega) (RXD_sm (by omega) (fun j => hF270 84 (by decide) j)) (by have y_ := congrArg Prod.snd ej279; have y2_ : j278 = i + 1 := y_.symm; rw [y2_]; exact rC_p (by (have z_ := unhid cr0; omega)))
      clear cr0 cb0 cd0 cv0 ck0
      have cr284 := hid (CUR_R hc280 (.inr rfl))
      have cd285 := CUR_d (hc280)
      have cb285 := hid (CUR_b hc280)
      have cv286 := hid (CUR_v hc280)
      have ck287 := hid (KZ_lt (i := j278) hz)
      have c1288 := (hc280).1
      have ci289 := hi282
      clear h267_4 h267_5 h267_6 h267_7 h267_8 h267_9
      refine go_toq PM170 (k := 2) (pc' := 62) (L' := [some (.inr (.inr (some 79))), none]) (st' := [.inr (.inr (some 79))]) (w' := (SH, dt268)) rfl ?_
      refine go_callq PM170 PM168 (Q' := _) rfl rfl rfl rfl (IH_X6_any L xs sio (d + 0) dt268 hI269 b n t j278 (by first | exact hbb | (rw [show dt268 85 = dt 85 from funext (hF271 85 (by decide)), show dt268 79 12 = dt 79 12 by first | with_reducible assumption | exact unhid (by with_reducible assumption) | fail]; exact hbb)) (by first | with_reducible assumption | exact unhid (by with_reducible assumption) | exact Eq.trans (by with_reducible assumption) hnn | fail) hz ht hc280 hi282 hn5  (by first | exact True.intro | with_reducible assumption | exact unhid (by with_reducible assumption) | rfl | omega | trivial) (by first | exact True.intro | with_reducible assumption | exact unhid (by with_reducible assumption) | rfl | omega | trivial) (by first | exact True.intro | with_reducible assumption | exact unhid (by with_reducible assumption) | rfl | omega | trivial) (by first | exact True.intro | with_reducible assumption | exact unhid (by with_reducible assumption) | rfl | omega | trivial)) ?_
      rintro _ _ ⟨dt291, rfl, hI292, hF293, h290⟩
      refine ⟨rfl, ?_⟩
      have hF294 : Fr [79, 84] dt dt291 := Fr_tr hF271 hF293 (by decide)
      rcases h290 with ⟨rfl, h290⟩ | ⟨rfl, h290⟩
      · skip
        obtain ⟨h290_0, h290_1, h290_2, h290_3, h290_4⟩ := h290
        have w295 : dt291 79 2 = dt 79 2 := h290_1.trans w272
        have w296 : dt291 79 9 = dt 79 9 := h290_2.trans w273
        have w297 : dt291 79 10 = dt 79 10 := h290_3.trans w274
        have w298 : dt291 79 12 = dt 79 12 := h290_4.trans w276
        have fl299 := RSX_0 h290_0 rfl
        have fe300 : (gC (KF 1 b n) (VF b n) (j + 1)) i = (gB_ (KF 1 b n) (VF b n) j) j278 := hp281.trans ((show (fun i => gB (gB_ (KF 1 b n) (VF b n) j i) (gK (KF 1 b n) 41)) j278 = gB ((gB_ (KF 1 b n) (VF b n) j) j278) (gK (KF 1 b n) 41) by rfl).trans (gB_no fl299.1))
        clear h290_1 w272 h290_2 w273 h290_3 h290_4 w276
        refine go_retq PM170 (k := 2) (r := some (.inl 0)) (w1 := (SH, dt291)) rfl ?_
        exact ⟨dt291, rfl, hI292, hF294, (Or.inl ⟨rfl, ⟨by first | exact RSX_f fe300 fl299 (by first | rfl | with_reducible assumption | exact unhid (by with_reducible assumption) | fail) (by first | rfl | with_reducible assumption | exact unhid (by with_reducible assumption) | fail) | exact RSX_no (k := 1) (j := j278) (hp281.trans (by show gR1 _ _ _ = _; unfold gR1; rw [if_neg (by fail)])) (by decide) (by fail) (by show _ = ((TP b n j278 : Nat) : Int); fail), by first | exact True.intro | with_reducible assumption | exact unhid (by with_reducible assumption) | rfl | fail | trivial, by first | exact True.intro | with_reducible assumption | exact unhid (by with_reducible assumption) | rfl | fail | trivial, by first | exact True.intro | with_reducible assumption | exact unhid (by with_reducible assumption) | rfl | fail | trivial, by first | exact True.intro | with_reducible assumption | exact unhid (by with_reducible assumption) | rfl | fail | trivial⟩⟩)⟩
      · skip
        obtain ⟨h290_0, h290_1, h290_2, h290_3, h290_4, h290_5, h290_6, h290_7, h290_8, h290_9, h290_10⟩ := h290
        have w301 : dt291 79 2 = dt 79 2 := h290_5.trans w272
        have w302 : dt291 79 9 = dt 79 9 := h290_6.trans w273
        have w303 : dt291 79 10 = dt 79 10 := h290_7.trans w274
        have w304 : dt291 79 12 = dt 79 12 := h290_8.trans w276
        have w305 : dt291 79 17 = dt 79 17 := h290_9.trans w277
        have w306 : dt291 79 20 = dt268 79 20 := h290_10
        obtain ⟨j307, ej308, hc309⟩ := RSX_1 h290_0 (by decide)
        have hp310 : (gC (KF 1 b n) (VF b n) (j + 1)) i = (gK (KF 1 b n) 41) j307 := hp281.trans ((show (fun i => gB (gB_ (KF 1 b n) (VF b n) j i) (gK (KF 1 b n) 41)) j278 = gB ((gB_ (KF 1 b n) (VF b n) j) j278) (gK (KF 1 b n) 41) by rfl).trans (by rw [ej308]; exact gB_0))
        have hi311 : j307 ≤ t := by have z := gB__M (K := (KF 1 b n)) (V := (VF b n)) (d := j) (i := j278) hz; rw [ej308] at z; have y := z rfl; simp only at y; omega
        have Q312 : RQ (rC (KF 1 b n) (VF b n) (j + 1)) eNl dt dt291 i j307 := RQ_st Q283 (by omega) h290_4 (by exact (List.append_nil _).symm)
        clear cr284 cb285 cd285 cv286 ck287
        have cr313 := hid (CUR_R hc309 (.inr rfl))
        have cd314 := CUR_d (hc309)
        have cb314 := hid (CUR_b hc309)
        have cv315 := hid (CUR_v hc309)
        have ck316 := hid (KZ_lt (i := j307) hz)
        have c1317 := (hc309).1
        have ci318 := hi311
        clear h290_5 w272 h290_6 w273 h290_7 h290_8 w276 h290_9 w277 h290_10
        refine go_toq PM170 (k := 3) (pc' := 72) (L' := [some (.inr (.inr (some 79))), none]) (st' := [.inl 141, .inr (.inr (some 79))]) (w' := (SH, dt291)) rfl ?_
        refine go_callq PM170 PM161 (Q' := _) rfl rfl rfl rfl (sp_X6_need0_g1 L xs sio (d + 5) dt291 hI292 b n t j307 (by first | exact hbb | (rw [show dt291 85 = dt 85 from funext (hF294 85 (by decide)), show dt291 79 12 = dt 79 12 by first | with_reducible assumption | exact unhid (by with_reducible assumption) | fail]; exact hbb)) (by first | with_reducible assumption | exact unhid (by with_reducible assumption) | exact Eq.trans (by with_reducible assumption) hnn | fail) hz ht hc309 hi311 hn5 141 ⟨by decide, by decide⟩ (by first | exact True.intro | with_reducible assumption | exact unhid (by with_reducible assumption) | rfl | omega | trivial)) ?_
        rintro _ _ ⟨dt320, rfl, hI321, hF322, h319⟩
        refine ⟨rfl, ?_⟩
        have hF323 : Fr [79, 84] dt dt320 := Fr_tr hF294 hF322 (by decide)
        rcases h319 with ⟨rfl, h319⟩ | ⟨rfl, h319⟩
        · skip
          obtain ⟨h319_0, h319_1, h319_2, h319_3, h319_4⟩ := h319
          have w324 : dt320 79 2 = dt 79 2 := h319_1.trans w301
          have w325 : dt320 79 9 = dt 79 9 := h319_2.trans w302
          have w326 : dt320 79 10 = dt 79 10 := h319_3.trans w303
          have w327 : dt320 79 12 = dt 79 12 := h319_4.trans w304
          have fl328 := RSX_0 h319_0 rfl
          have fe329 : (gC (KF 1 b n) (VF b n) (j + 1)) i = (gK (KF 1 b n) (141 - 100)) j307 := hp310.trans ((show (gK (KF 1 b n) 41) j307 = gB ((gK (KF 1 b n) (141 - 100)) j307) gOk by exact gB_id.symm).trans (gB_no fl328.1))
          clear h319_1 w301 h319_2 w302 h319_3 h319_4 w304
          refine go_retq PM170 (k := 2) (r := some (.inl 0)) (w1 := (SH, dt320)) rfl ?_
          exact ⟨dt320, rfl, hI321, hF323, (Or.inl ⟨rfl, ⟨by first | exact RSX_f fe329 fl328 (by first | rfl | with_reducible assumption | exact unhid (by with_reducible assumption) | fail) (by first | rfl | with_reducible assumption | exact unhid (by with_reducible assumption) | fail) | exact RSX_no (k := 1) (j := j307) (hp310.trans (by show gR1 _ _ _ = _; unfold gR1; rw [if_neg (by fail)])) (by decide) (by fail) (by show _ = ((TP b n j307 : Nat) : Int); fail), by first | exact True.intro | with_reducible assumption | exact unhid (by with_reducible assumption) | rfl | fail | trivial, by first | exact True.intro | with_reducible assumption | exact unhid (by with_reducible assumption) | rfl | fail | trivial, by first | exact True.intro | with_reducible assumption | exact unhid (by with_reducible assumption) | rfl | fail | trivial, by first | exact True.intro | with_reducible assumption | exact unhid (by with_reducible assumption) | rfl | fail | trivial⟩⟩)⟩
        · skip
          obtain ⟨h319_0, h319_1, h319_2, h319_3, h319_4, h319_5, h319_6, h319_7, h319_8, h319_9⟩ := h319
          have w330 : dt320 79 2 = dt 79 2 := h319_3.trans w301
          have w331 : dt320 79 9 = dt 79 9 := h319_4.trans w302
          have w332 : dt320 79 10 = dt 79 10 := h319_5.trans w303
          have w333 : dt320 79 11 = dt291 79 11 := h319_6
          have w334 : dt320 79 12 = dt 79 12 := h319_7.trans w304
          have w335 : dt320 79 17 = dt 79 17 := h319_8.trans w305
          have w336 : dt320 79 20 = dt268 79 20 := h319_9.trans w306
          obtain ⟨j337, ej338, hc339⟩ := RSX_1 h319_0 (by decide)
          have hp340 : (gC (KF 1 b n) (VF b n) (j + 1)) i = gOk j337 := hp310.trans ((show (gK (KF 1 b n) 41) j307 = gB ((gK (KF 1 b n) (141 - 100)) j307) gOk by exact gB_id.symm).trans (by rw [ej338]; exact gB_0))
          have hi341 : j337 ≤ t := by have z := (fun (h : KZ (KF 1 b n) t) => gK_M (K := (KF 1 b n)) (k := 141 - 100) (i := j307) h (by decide)) hz; rw [ej338] at z; have y := z rfl; simp only at y; omega
          have Q342 : RQ (rC (KF 1 b n) (VF b n) (j + 1)) eNl dt dt320 i j337 := RQ_st Q312 (by omega) (RXD_sm (by omega) (fun j => hF322 84 (by decide) j)) (by rfl)
          clear cr313 cb314 cd314 cv315 ck316
          have cr343 := hid (CUR_R hc339 (.inr rfl))
          have cd344 := CUR_d (hc339)
          have cb344 := hid (CUR_b hc339)
          have cv345 := hid (CUR_v hc339)
          have ck346 := hid (KZ_lt (i := j337) hz)
          have c1347 := (hc339).1
          have ci348 := hi341
          clear h319_3 w301 h319_4 w302 h319_5 h319_6 h319_7 w304 h319_8 w305 h319_9 w306
          have r349 : 0 ≤ dt320 79 20 ∧ dt320 79 20 ≤ 8 := InvC_get hI321 79 20 rfl rfl
          refine go_toq PM170 (k := 6) (pc' := 87) (L' := [some (.inr (.inr (some 79))), none]) (st' := [.inl ((dt320 79 20) - 1), .inr (.inr (some 79))]) (w' := (SH, dt320)) rfl ?_
          have hI350 : InvC (u2 dt320 79 20 ((dt320 79 20) - 1)) := InvC_u2 hI321 (lo := 0) (hi := 8) rfl rfl rfl (by omega) (by omega)
          have hF351 : Fr [79, 84] dt (u2 dt320 79 20 ((dt320 79 20) - 1)) := Fr_u2 hF323 (by decide)
          have w352 : (u2 dt320 79 20 ((dt320 79 20) - 1)) 79 2 = dt 79 2 := w330
          have w353 : (u2 dt320 79 20 ((dt320 79 20) - 1)) 79 9 = dt 79 9 := w331
          have w354 : (u2 dt320 79 20 ((dt320 79 20) - 1)) 79 10 = dt 79 10 := w332
          have w355 : (u2 dt320 79 20 ((dt320 79 20) - 1)) 79 11 = dt291 79 11 := w333
          have w356 : (u2 dt320 79 20 ((dt320 79 20) - 1)) 79 12 = dt 79 12 := w334
          have w357 : (u2 dt320 79 20 ((dt320 79 20) - 1)) 79 13 = dt320 79 13 := rfl
          have w358 : (u2 dt320 79 20 ((dt320 79 20) - 1)) 79 14 = dt320 79 14 := rfl
          have w359 : (u2 dt320 79 20 ((dt320 79 20) - 1)) 79 15 = dt320 79 15 := rfl
          have w360 : (u2 dt320 79 20 ((dt320 79 20) - 1)) 79 16 = dt320 79 16 := rfl
          have w361 : (u2 dt320 79 20 ((dt320 79 20) - 1)) 79 17 = dt 79 17 := w335
          have w362 : (u2 dt320 79 20 ((dt320 79 20) - 1)) 79 18 = dt320 79 18 := rfl
          have w363 : (u2 dt320 79 20 ((dt320 79 20) - 1)) 79 20 = (dt320 79 20) - 1 := rfl
          have Q364 : RQ (rC (KF 1 b n) (VF b n) (j + 1)) eNl dt (u2 dt320 79 20 ((dt320 79 20) - 1)) i j337 := RQ_sm Q342 rfl (fun j => u2_ne (by omega))
          have hc365 : CUR 1 b n (u2 dt320 79 20 ((dt320 79 20) - 1)) j337 := CUR_sm hc339 rfl rfl rfl rfl
          refine go_smpq PM170 (L' := [some (.inr (.inr (some 79))), none]) (st' := []) (w' := (SH, (u2 dt320 79 20 ((dt320 79 20) - 1)))) rfl rfl (s_pf rfl rfl rfl rfl ⟨by omega, by omega⟩) ?_
          refine go_retq PM170 (k := 1) (r := some (.inl 1)) (w1 := (SH, (u2 dt320 79 20 ((dt320 79 20) - 1)))) rfl ?_
          exact ⟨(u2 dt320 79 20 ((dt320 79 20) - 1)), rfl, hI350, hF351, (Or.inr ⟨rfl, ⟨by exact RSX_ok (hp340.trans (by rfl)) hc365, by first | exact True.intro | with_reducible assumption | exact unhid (by with_reducible assumption) | rfl | omega | trivial, by first | exact True.intro | with_reducible assumption | exact unhid (by with_reducible assumption) | rfl | omega | trivial, by exact (InvC_get (by assumption) 79 15 rfl rfl).2, by exact RQ_e Q364, by first | exact True.intro | with_reducible assumption | exact unhid (by with_reducible assumption) | rfl | fail | trivial, by first | exact True.intro | with_reducible assumption | exact unhid (by with_reducible assumption) | rfl | fail | trivial, by first | exact True.intro | with_reducible assumption | exact unhid (by with_reducible assumption) | rfl | fail | trivial, by first | exact True.intro | with_reducible assumption | exact unhid (by with_reducible assumption) | rfl | fail | trivial, by first | exact True.intro | with_reducible assumption | exact unhid (by with_reducible assumption) | rfl | fail | trivial, by first | exact True.intro | with_reducible assumption | exact unhid (by with_reducible assumption) | rfl | omega | trivial⟩⟩)⟩
  · skip
    refine go_toq PM170 (k := 1) (pc' := 10) (L' := [some (.inr (.inr (some 79))), none]) (st' := [.inr (.inr (some 79))]) (w' := (SH, dt)) rfl ?_
    refine go_callq PM170 PM164 (Q' := _) rfl rfl rfl rfl (sp_X6_opens_o L xs sio (d + 5) dt hI b n t i (by first | exact hbb | (rw [show dt 85 = dt 85 from funext (hF 85 (by decide)), show dt 79 12 = dt 79 12 by first | with_reducible assumption | exact unhid (by with_reducible assumption) | fail]; exact hbb)) (by first | with_reducible assumption | exact unhid (by with_reducible assumption) | exact Eq.trans (by with_reducible assumption) hnn | fail) hz ht hc hi hn5  (by first | exact True.intro | with_reducible assumption | exact unhid (by with_reducible assumption) | rfl | fail | trivial) (by first | exact True.intro | with_reducible assumption | exact unhid (by with_reducible assumption) | rfl | omega | trivial) (by first | exact True.intro | with_reducible assumption | exact unhid (by with_reducible assumption) | rfl | omega | trivial)) ?_
    rintro _ _ ⟨dt367, rfl, hI368, hF369, h366⟩
    refine ⟨rfl, ?_⟩
    have hF370 : Fr [79, 84] dt dt367 := Fr_tr hF hF369 (by decide)
    rcases h366 with ⟨rfl, h366⟩
    obtain ⟨h366_0, h366_1, h366_2, h366_3, h366_4, h366_5, h366_6, h366_7, h366_8, h366_9⟩ := h366
    have w371 : dt367 79 2 = dt 79 2 := h366_4
    have w372 : dt367 79 9 = dt 79 9 := h366_5
    have w373 : dt367 79 10 = dt 79 10 := h366_6
    have w374 : dt367 79 11 = dt 79 11 := h366_7
    have w375 : dt367 79 12 = dt 79 12 := h366_8
    have w376 : dt367 79 17 = dt 79 17 := h366_9
    obtain ⟨j377, ej378, hc379⟩ := RSX_1 h366_0 (by decide)
    have hp380 : (gC (KF 1 b n) (VF b n) (j + 1)) i = (gC (KF 1 b n) (VF b n) j) j377 := (rfl : (gC (KF 1 b n) (VF b n) (j + 1)) i = (gC (KF 1 b n) (VF b n) (j + 1)) i).trans ((show (gC (KF 1 b n) (VF b n) (j + 1)) i = gB (gOp i) (gC (KF 1 b n) (VF b n) j) by exact gC_n (by (have z_ := unhid u9_; omega))).trans (by rw [ej378]; exact gB_0))
    have hi381 : j377 ≤ t := by have z : gOp i = (0, j377) := ej378; have y : i + 1 = j377 := congrArg Prod.snd z; (have z_ := unhid u9_; omega)
    have Q382 : RQ (rC (KF 1 b n) (VF b n) (j + 1)) (fun q_ => rC (KF 1 b n) (VF b n) j q_ ++ [-8]) dt dt367 i j377 := RQ_st RQ_0 (by omega) (RXD_sm (by omega) (fun j => hF369 84 (by decide) j)) (by have y_ := congrArg Prod.snd ej378; have y2_ : j377 = i + 1 := y_.symm; rw [y2_]; exact rC_n (by (have z_ := unhid cr0; omega)))
    clear cr0 cb0 cd0 cv0 ck0
    have cr383 := hid (CUR_R hc379 (.inr rfl))
    have cd384 := CUR_d (hc379)
    have cb384 := hid (CUR_b hc379)
    have cv385 := hid (CUR_v hc379)
    have ck386 := hid (KZ_lt (i := j377) hz)
    have c1387 := (hc379).1
    have ci388 := hi381
    clear h366_4 h366_5 h366_6 h366_7 h366_8 h366_9
    refine go_toq PM170 (k := 2) (pc' := 17) (L' := [some (.inr (.inr (some 79))), none]) (st' := [.inr (.inr (some 79))]) (w' := (SH, dt367)) rfl ?_
    refine go_callq PM170 PM170 (Q' := _) rfl rfl rfl rfl (IH_X6_one L xs sio (d + 2) dt367 hI368 b n t j377 (by first | exact hbb | (rw [show dt367 85 = dt 85 from funext (hF370 85 (by decide)), show dt367 79 12 = dt 79 12 by first | with_reducible assumption | exact unhid (by with_reducible assumption) | fail]; exact hbb)) (by first | with_reducible assumption | exact unhid (by with_reducible assumption) | exact Eq.trans (by with_reducible assumption) hnn | fail) hz ht hc379 hi381 hn5  (by first | exact True.intro | with_reducible assumption | exact unhid (by with_reducible assumption) | rfl | omega | trivial) (by first | exact True.intro | with_reducible assumption | exact unhid (by with_reducible assumption) | rfl | omega | trivial) (by first | exact True.intro | with_reducible assumption | exact unhid (by with_reducible assumption) | rfl | omega | trivial) (by first | exact True.intro | with_reducible assumption | exact unhid (by with_reducible assumption) | rfl | omega | trivial)) ?_
    rintro _ _ ⟨dt390, rfl, hI391, hF392, h389⟩
    refine ⟨rfl, ?_⟩
    have hF393 : Fr [79, 84] dt dt390 := Fr_tr hF370 hF392 (by decide)
    rcases h389 with ⟨rfl, h389⟩ | ⟨rfl, h389⟩
    · skip
      obtain ⟨h389_0, h389_1, h389_2, h389_3, h389_4⟩ := h389
      have w394 : dt390 79 2 = dt 79 2 := h389_1.trans w371
      have w395 : dt390 79 9 = dt 79 9 := h389_2.trans w372
      have w396 : dt390 79 10 = dt 79 10 := h389_3.trans w373
      have w397 : dt390 79 12 = dt 79 12 := h389_4.trans w375
      have fl398 := RSX_0 h389_0 rfl
      have fe399 : (gC (KF 1 b n) (VF b n) (j + 1)) i = (gC (KF 1 b n) (VF b n) j) j377 := hp380.trans ((show (gC (KF 1 b n) (VF b n) j) j377 = gB ((gC (KF 1 b n) (VF b n) j) j377) gOk by exact gB_id.symm).trans (gB_no fl398.1))
      clear h389_1 w371 h389_2 w372 h389_3 h389_4 w375
      refine go_retq PM170 (k := 2) (r := some (.inl 0)) (w1 := (SH, dt390)) rfl ?_
      exact ⟨dt390, rfl, hI391, hF393, (Or.inl ⟨rfl, ⟨by first | exact RSX_f fe399 fl398 (by first | rfl | with_reducible assumption | exact unhid (by with_reducible assumption) | fail) (by first | rfl | with_reducible assumption | exact unhid (by with_reducible assumption) | fail) | exact RSX_no (k := 1) (j := j377) (hp380.trans (by show gR1 _ _ _ = _; unfold gR1; rw [if_neg (by fail)])) (by decide) (by fail) (by show _ = ((TP b n j377 : Nat) : Int); fail), by first | exact True.intro | with_reducible assumption | exact unhid (by with_reducible assumption) | rfl | fail | trivial, by first | exact True.intro | with_reducible assumption | exact unhid (by with_reducible assumption) | rfl | fail | trivial, by first | exact True.intro | with_reducible assumption | exact unhid (by with_reducible assumption) | rfl | fail | trivial, by first | exact True.intro | with_reducible assumption | exact unhid (by with_reducible assumption) | rfl | fail | trivial⟩⟩)⟩
    · skip
      obtain ⟨h389_0, h389_1, h389_2, h389_3, h389_4, h389_5, h389_6, h389_7, h389_8, h389_9, h389_10⟩ := h389
      have w400 : dt390 79 2 = dt 79 2 := h389_5.trans w371
      have w401 : dt390 79 9 = dt 79 9 := h389_6.trans w372
      have w402 : dt390 79 10 = dt 79 10 := h389_7.trans w373
      have w403 : dt390 79 12 = dt 79 12 := h389_8.trans w375
      have w404 : dt390 79 17 = dt 79 17 := h389_9.trans w376
      have w405 : dt390 79 20 = dt367 79 20 := h389_10
      obtain ⟨j406, ej407, hc408⟩ := RSX_1 h389_0 (by decide)
      have hp409 : (gC (KF 1 b n) (VF b n) (j + 1)) i = gOk j406 := hp380.trans ((show (gC (KF 1 b n) (VF b n) j) j377 = gB ((gC (KF 1 b n) (VF b n) j) j377) gOk by exact gB_id.symm).trans (by rw [ej407]; exact gB_0))
      have hi410 : j406 ≤ t := by have z := (fun (h : KZ (KF 1 b n) t) => gC_M (K := (KF 1 b n)) (V := (VF b n)) h j j377) hz; rw [ej407] at z; have y := z rfl; simp only at y; omega
      have Q411 : RQ (rC (KF 1 b n) (VF b n) (j + 1)) (fun _ => [-8]) dt dt390 i j406 := RQ_st Q382 (by omega) h389_4 (by rfl)
      clear cr383 cb384 cd384 cv385 ck386
      have cr412 := hid (CUR_R hc408 (.inr rfl))
      have cd413 := CUR_d (hc408)
      have cb413 := hid (CUR_b hc408)
      have cv414 := hid (CUR_v hc408)
      have ck415 := hid (KZ_lt (i := j406) hz)
      have c1416 := (hc408).1
      have ci417 := hi410
      clear h389_5 w371 h389_6 w372 h389_7 h389_8 w375 h389_9 w376 h389_10
      have r418 : 0 ≤ dt390 79 20 ∧ dt390 79 20 ≤ 8 := InvC_get hI391 79 20 rfl rfl
      refine go_toq PM170 (k := 6) (pc' := 32) (L' := [some (.inr (.inr (some 79))), none]) (st' := [.inl ((dt390 79 20) - 1), .inr (.inr (some 79))]) (w' := (SH, dt390)) rfl ?_
      have hI419 : InvC (u2 dt390 79 20 ((dt390 79 20) - 1)) := InvC_u2 hI391 (lo := 0) (hi := 8) rfl rfl rfl (by omega) (by omega)
      have hF420 : Fr [79, 84] dt (u2 dt390 79 20 ((dt390 79 20) - 1)) := Fr_u2 hF393 (by decide)
      have w421 : (u2 dt390 79 20 ((dt390 79 20) - 1)) 79 2 = dt 79 2 := w400
      have w422 : (u2 dt390 79 20 ((dt390 79 20) - 1)) 79 9 = dt 79 9 := w401
      have w423 : (u2 dt390 79 20 ((dt390 79 20) - 1)) 79 10 = dt 79 10 := w402
      have w424 : (u2 dt390 79 20 ((dt390 79 20) - 1)) 79 11 = dt390 79 11 := rfl
      have w425 : (u2 dt390 79 20 ((dt390 79 20) - 1)) 79 12 = dt 79 12 := w403
      have w426 : (u2 dt390 79 20 ((dt390 79 20) - 1)) 79 13 = dt390 79 13 := rfl
      have w427 : (u2 dt390 79 20 ((dt390 79 20) - 1)) 79 14 = dt390 79 14 := rfl
      have w428 : (u2 dt390 79 20 ((dt390 79 20) - 1)) 79 15 = dt390 79 15 := rfl
      have w429 : (u2 dt390 79 20 ((dt390 79 20) - 1)) 79 16 = dt390 79 16 := rfl
      have w430 : (u2 dt390 79 20 ((dt390 79 20) - 1)) 79 17 = dt 79 17 := w404
      have w431 : (u2 dt390 79 20 ((dt390 79 20) - 1)) 79 18 = dt390 79 18 := rfl
      have w432 : (u2 dt390 79 20 ((dt390 79 20) - 1)) 79 20 = (dt390 79 20) - 1 := rfl
      have Q433 : RQ (rC (KF 1 b n) (VF b n) (j + 1)) (fun _ => [-8]) dt (u2 dt390 79 20 ((dt390 79 20) - 1)) i j406 := RQ_sm Q411 rfl (fun j => u2_ne (by omega))
      have hc434 : CUR 1 b n (u2 dt390 79 20 ((dt390 79 20) - 1)) j406 := CUR_sm hc408 rfl rfl rfl rfl
      refine go_smpq PM170 (L' := [some (.inr (.inr (some 79))), none]) (st' := []) (w' := (SH, (u2 dt390 79 20 ((dt390 79 20) - 1)))) rfl rfl (s_pf rfl rfl rfl rfl ⟨by omega, by omega⟩) ?_
      refine go_toq PM170 (k := 3) (pc' := 39) (L' := [some (.inr (.inr (some 79))), none]) (st' := [.inl 0, .inl 14, .inr (.inr (some 79))]) (w' := (SH, (u2 dt390 79 20 ((dt390 79 20) - 1)))) rfl ?_
      refine go_callq PM170 PM163 (Q' := _) rfl rfl rfl rfl (sp_X6_lay_g L xs sio (d + 12) (u2 dt390 79 20 ((dt390 79 20) - 1)) hI419  14 ⟨by decide, by decide⟩ 0 ⟨by decide, by decide⟩ (by first | exact True.intro | with_reducible assumption | exact unhid (by with_reducible assumption) | rfl | omega | trivial) (by first | exact True.intro | with_reducible assumption | exact unhid (by with_reducible assumption) | rfl | omega | trivial)) ?_
      rintro _ _ ⟨dt436, rfl, hI437, hF438, h435⟩
      refine ⟨rfl, ?_⟩
      have hF439 : Fr [79, 84] dt dt436 := Fr_tr hF420 hF438 (by decide)
      rcases h435 with ⟨rfl, h435⟩
      obtain ⟨h435_0, h435_1, h435_2, h435_3, h435_4, h435_5, h435_6, h435_7, h435_8, h435_9, h435_10, h435_11⟩ := h435
      have w440 : dt436 79 2 = dt 79 2 := h435_2.trans w421
      have w441 : dt436 79 9 = dt 79 9 := h435_3.trans w422
      have w442 : dt436 79 10 = dt 79 10 := h435_4.trans w423
      have w443 : dt436 79 12 = dt 79 12 := h435_5.trans w425
      have w444 : dt436 79 13 = dt390 79 13 := h435_6.trans w426
      have w445 : dt436 79 14 = dt390 79 14 := h435_7.trans w427
      have w446 : dt436 79 15 = dt390 79 15 := h435_8.trans w428
      have w447 : dt436 79 16 = dt390 79 16 := h435_9.trans w429
      have w448 : dt436 79 17 = dt 79 17 := h435_10.trans w430
      have w449 : dt436 79 20 = (dt390 79 20) - 1 := h435_11.trans w432
      have Q450 : RQ (rC (KF 1 b n) (VF b n) (j + 1)) eNl dt dt436 i j406 := RQ_st Q433 (by omega) h435_1 (by rfl)
      have hc451 : CUR 1 b n dt436 j406 := CUR_sm hc434 (by first | with_reducible assumption | exact unhid (by with_reducible assumption) | rfl | fail) (by first | with_reducible assumption | exact unhid (by with_reducible assumption) | rfl | fail) (by first | with_reducible assumption | exact unhid (by with_reducible assumption) | rfl | fail) (by first | with_reducible assumption | exact unhid (by with_reducible assumption) | rfl | fail)
      clear h435_2 w421 h435_3 w422 h435_4 w423 h435_5 w425 h435_6 w426 h435_7 w427 h435_8 w428 h435_9 w429 h435_10 w430 h435_11 w432
      refine go_retq PM170 (k := 1) (r := some (.inl 1)) (w1 := (SH, dt436)) rfl ?_
      exact ⟨dt436, rfl, hI437, hF439, (Or.inr ⟨rfl, ⟨by exact RSX_ok (hp409.trans (by rfl)) hc451, by first | exact True.intro | with_reducible assumption | exact unhid (by with_reducible assumption) | rfl | omega | trivial, by first | exact True.intro | with_reducible assumption | exact unhid (by with_reducible assumption) | rfl | omega | trivial, by exact (InvC_get (by assumption) 79 15 rfl rfl).2, by exact RQ_e Q450, by first | exact True.intro | with_reducible assumption | exact unhid (by with_reducible assumption) | rfl | fail | trivial, by first | exact True.intro | with_reducible assumption | exact unhid (by with_reducible assumption) | rfl | fail | trivial, by first | exact True.intro | with_reducible assumption | exact unhid (by with_reducible assumption) | rfl | fail | trivial, by first | exact True.intro | with_reducible assumption | exact unhid (by with_reducible assumption) | rfl | fail | trivial, by first | exact True.intro | with_reducible assumption | exact unhid (by with_reducible assumption) | rfl | fail | trivial, by first | exact True.intro | with_reducible assumption | exact unhid (by with_reducible assumption) | rfl | omega | trivial⟩⟩)⟩
theorem lv_all_X6_one_g : ∀ j : Nat, (∀ (L : Nat) (xs : Nat → Int32) (sio : Option Nat) (d : Nat) (dt : Nat → Nat → Int) (hI : InvC dt) (b : Nat → Int) (n t i : Nat) (hbb : mB (dt 85) (dt 79 12) = b) (hnn : dt 79 12 = (n : Int)) (hz : KZ (KF 1 b n) t) (ht : t ≤ 500) (hc : CUR 1 b n dt i) (hi : i ≤ t) (hn5 : n ≤ 500) (h_p0 : dt 79 9 = 1) (h_p1 : dt 79 11 ≤ dt 79 15) (h_p2 : dt 79 20 + ((j : Nat) : Int) = 8) (h_p3 : 3 * j ≤ d), GO (am_XX L xs sio) (d + 10) 170 0 [some (.inr (.inr (some 79))), none] [] (SH, dt) (fun r w2 => ∃ dt2 : Nat → Nat → Int, w2 = (SH, dt2) ∧ InvC dt2 ∧ Fr [79, 84] dt dt2 ∧ ((r = some (.inl 0) ∧ (RSX 1 b n i dt2 0 ((gC (KF 1 b n) (VF b n) j) i)) ∧ (dt2 79 2 = dt 79 2) ∧ (dt2 79 9 = dt 79 9) ∧ (dt2 79 10 = dt 79 10) ∧ (dt2 79 12 = dt 79 12)) ∨ (r = some (.inl 1) ∧ (RSX 1 b n i dt2 1 ((gC (KF 1 b n) (VF b n) j) i)) ∧ (dt 79 15 + dt2 79 11 ≤ dt2 79 15 + dt 79 11) ∧ (dt 79 11 + 1 ≤ dt2 79 11) ∧ (dt2 79 15 ≤ 500) ∧ (RXD dt dt2 ((rC (KF 1 b n) (VF b n) j) i)) ∧ (dt2 79 2 = dt 79 2) ∧ (dt2 79 9 = dt 79 9) ∧ (dt2 79 10 = dt 79 10) ∧ (dt2 79 12 = dt 79 12) ∧ (dt2 79 17 = dt 79 17) ∧ (dt2 79 20 = dt 79 20))))) ∧ (∀ (L : Nat) (xs : Nat → Int32) (sio : Option Nat) (d : Nat) (dt : Nat → Nat → Int) (hI : InvC dt) (b : Nat → Int) (n t i : Nat) (hbb : mB (dt 85) (dt 79 12) = b) (hnn : dt 79 12 = (n : Int)) (hz : KZ (KF 1 b n) t) (ht : t ≤ 500) (hc : CUR 1 b n dt i) (hi : i ≤ t) (hn5 : n ≤ 500) (h_p0 : dt 79 9 = 1) (h_p1 : dt 79 11 ≤ dt 79 15) (h_p2 : dt 79 20 + ((j : Nat) : Int) = 8) (h_p3 : 3 * j ≤ d), GO (am_XX L xs sio) (d + 11) 169 0 [some (.inr (.inr (some 79)))] [] (SH, dt) (fun r w2 => ∃ dt2 : Nat → Nat → Int, w2 = (SH, dt2) ∧ InvC dt2 ∧ Fr [79, 84] dt dt2 ∧ ((r = some (.inl 0) ∧ (RSX 1 b n i dt2 0 ((gEv (KF 1 b n) (VF b n) j) i)) ∧ (dt2 79 2 = dt 79 2) ∧ (dt2 79 9 = dt 79 9) ∧ (dt2 79 10 = dt 79 10) ∧ (dt2 79 12 = dt 79 12)) ∨ (r = some (.inl 1) ∧ (RSX 1 b n i dt2 1 ((gEv (KF 1 b n) (VF b n) j) i)) ∧ (dt 79 15 + dt2 79 11 ≤ dt2 79 15 + dt 79 11) ∧ (dt 79 11 + 1 ≤ dt2 79 11) ∧ (dt2 79 15 ≤ 500) ∧ (RXD dt dt2 ((rEv (KF 1 b n) (rC (KF 1 b n) (VF b n) j) (gC (KF 1 b n) (VF b n) j)) i)) ∧ (dt2 79 2 = dt 79 2) ∧ (dt2 79 9 = dt 79 9) ∧ (dt2 79 10 = dt 79 10) ∧ (dt2 79 12 = dt 79 12) ∧ (dt2 79 17 = dt 79 17) ∧ (dt2 79 20 = dt 79 20))))) ∧ (∀ (L : Nat) (xs : Nat → Int32) (sio : Option Nat) (d : Nat) (dt : Nat → Nat → Int) (hI : InvC dt) (b : Nat → Int) (n t i : Nat) (hbb : mB (dt 85) (dt 79 12) = b) (hnn : dt 79 12 = (n : Int)) (hz : KZ (KF 1 b n) t) (ht : t ≤ 500) (hc : CUR 1 b n dt i) (hi : i ≤ t) (hn5 : n ≤ 500) (h_p0 : dt 79 9 = 1) (h_p1 : dt 79 11 ≤ dt 79 15) (h_p2 : dt 79 20 + ((j : Nat) : Int) = 8) (h_p3 : 3 * j ≤ d), GO (am_XX L xs sio) (d + 12) 168 0 [some (.inr (.inr (some 79)))] [] (SH, dt) (fun r w2 => ∃ dt2 : Nat → Nat → Int, w2 = (SH, dt2) ∧ InvC dt2 ∧ Fr [79, 84] dt dt2 ∧ ((r = some (.inl 0) ∧ (RSX 1 b n i dt2 0 ((gB_ (KF 1 b n) (VF b n) j) i)) ∧ (dt2 79 2 = dt 79 2) ∧ (dt2 79 9 = dt 79 9) ∧ (dt2 79 10 = dt 79 10) ∧ (dt2 79 12 = dt 79 12)) ∨ (r = some (.inl 1) ∧ (RSX 1 b n i dt2 1 ((gB_ (KF 1 b n) (VF b n) j) i)) ∧ (dt 79 15 + dt2 79 11 ≤ dt2 79 15 + dt 79 11) ∧ (dt 79 11 + 1 ≤ dt2 79 11) ∧ (dt2 79 15 ≤ 500) ∧ (RXD dt dt2 ((rB (KF 1 b n) (VF b n) j) i)) ∧ (dt2 79 2 = dt 79 2) ∧ (dt2 79 9 = dt 79 9) ∧ (dt2 79 10 = dt 79 10) ∧ (dt2 79 12 = dt 79 12) ∧ (dt2 79 17 = dt 79 17) ∧ (dt2 79 20 = dt 79 20)))))
  | 0 => by
    have g0 : ∀ (L : Nat) (xs : Nat → Int32) (sio : Option Nat) (d : Nat) (dt : Nat → Nat → Int) (hI : InvC dt) (b : Nat → Int) (n t i : Nat) (hbb : mB (dt 85) (dt 79 12) = b) (hnn : dt 79 12 = (n : Int)) (hz : KZ (KF 1 b n) t) (ht : t ≤ 500) (hc : CUR 1 b n dt i) (hi : i ≤ t) (hn5 : n ≤ 500) (h_p0 : dt 79 9 = 1) (h_p1 : dt 79 11 ≤ dt 79 15) (h_p2 : dt 79 20 + ((0 : Nat) : Int) = 8) (h_p3 : 3 * 0 ≤ d), GO (am_XX L xs sio) (d + 10) 170 0 [some (.inr (.inr (some 79))), none] [] (SH, dt) (fun r w2 => ∃ dt2 : Nat → Nat → Int, w2 = (SH, dt2) ∧ InvC dt2 ∧ Fr [79, 84] dt dt2 ∧ ((r = some (.inl 0) ∧ (RSX 1 b n i dt2 0 ((gC (KF 1 b n) (VF b n) 0) i)) ∧ (dt2 79 2 = dt 79 2) ∧ (dt2 79 9 = dt 79 9) ∧ (dt2 79 10 = dt 79 10) ∧ (dt2 79 12 = dt 79 12)) ∨ (r = some (.inl 1) ∧ (RSX 1 b n i dt2 1 ((gC (KF 1 b n) (VF b n) 0) i)) ∧ (dt 79 15 + dt2 79 11 ≤ dt2 79 15 + dt 79 11) ∧ (dt 79 11 + 1 ≤ dt2 79 11) ∧ (dt2 79 15 ≤ 500) ∧ (RXD dt dt2 ((rC (KF 1 b n) (VF b n) 0) i)) ∧ (dt2 79 2 = dt 79 2) ∧ (dt2 79 9 = dt 79 9) ∧ (dt2 79 10 = dt 79 10) ∧ (dt2 79 12 = dt 79 12) ∧ (dt2 79 17 = dt 79 17) ∧ (dt2 79 20 = dt 79 20)))) := by
      intro z0 z1 z2 z3 z4 z5 z6 z7 z8 z9 z10 z11 z12 z13 z14 z15 z16 z17 z18 z19 z20
      exact sp_X6_one_g8 z0 z1 z2 z3 z4 z5 z6 z7 z8 z9 z10 z11 z12 z13 z14 z15 z16 z17 z18 (by omega)
    have g1 : ∀ (L : Nat) (xs : Nat → Int32) (sio : Option Nat) (d : Nat) (dt : Nat → Nat → Int) (hI : InvC dt) (b : Nat → Int) (n t i : Nat) (hbb : mB (dt 85) (dt 79 12) = b) (hnn : dt 79 12 = (n : Int)) (hz : KZ (KF 1 b n) t) (ht : t ≤ 500) (hc : CUR 1 b n dt i) (hi : i ≤ t) (hn5 : n ≤ 500) (h_p0 : dt 79 9 = 1) (h_p1 : dt 79 11 ≤ dt 79 15) (h_p2 : dt 79 20 + ((0 : Nat) : Int) = 8) (h_p3 : 3 * 0 ≤ d), GO (am_XX L xs sio) (d + 11) 169 0 [some (.inr (.inr (some 79)))] [] (SH, dt) (fun r w2 => ∃ dt2 : Nat → Nat → Int, w2 = (SH, dt2) ∧ InvC dt2 ∧ Fr [79, 84] dt dt2 ∧ ((r = some (.inl 0) ∧ (RSX 1 b n i dt2 0 ((gEv (KF 1 b n) (VF b n) 0) i)) ∧ (dt2 79 2 = dt 79 2) ∧ (dt2 79 9 = dt 79 9) ∧ (dt2 79 10 = dt 79 10) ∧ (dt2 79 12 = dt 79 12)) ∨ (r = some (.inl 1) ∧ (RSX 1 b n i dt2 1 ((gEv (KF 1 b n) (VF b n) 0) i)) ∧ (dt 79 15 + dt2 79 11 ≤ dt2 79 15 + dt 79 11) ∧ (dt 79 11 + 1 ≤ dt2 79 11) ∧ (dt2 79 15 ≤ 500) ∧ (RXD dt dt2 ((rEv (KF 1 b n) (rC (KF 1 b n) (VF b n) 0) (gC (KF 1 b n) (VF b n) 0)) i)) ∧ (dt2 79 2 = dt 79 2) ∧ (dt2 79 9 = dt 79 9) ∧ (dt2 79 10 = dt 79 10) ∧ (dt2 79 12 = dt 79 12) ∧ (dt2 79 17 = dt 79 17) ∧ (dt2 79 20 = dt 79 20)))) := fun z0 z1 z2 z3 z4 z5 z6 z7 z8 z9 z10 z11 z12 z13 z14 z15 z16 z17 z18 z19 z20 => lv_X6_every_g z0 z1 z2 z3 z4 z5 z6 z7 z8 z9 z10 z11 z12 z13 z14 z15 z16 0 g0 z17 z18 z19 z20
    have g2 : ∀ (L : Nat) (xs : Nat → Int32) (sio : Option Nat) (d : Nat) (dt : Nat → Nat → Int) (hI : InvC dt) (b : Nat → Int) (n t i : Nat) (hbb : mB (dt 85) (dt 79 12) = b) (hnn : dt 79 12 = (n : Int)) (hz : KZ (KF 1 b n) t) (ht : t ≤ 500) (hc : CUR 1 b n dt i) (hi : i ≤ t) (hn5 : n ≤ 500) (h_p0 : dt 79 9 = 1) (h_p1 : dt 79 11 ≤ dt 79 15) (h_p2 : dt 79 20 + ((0 : Nat) : Int) = 8) (h_p3 : 3 * 0 ≤ d), GO (am_XX L xs sio) (d + 12) 168 0 [some (.inr (.inr (some 79)))] [] (SH, dt) (fun r w2 => ∃ dt2 : Nat → Nat → Int, w2 = (SH, dt2) ∧ InvC dt2 ∧ Fr [79, 84] dt dt2 ∧ ((r = some (.inl 0) ∧ (RSX 1 b n i dt2 0 ((gB_ (KF 1 b n) (VF b n) 0) i)) ∧ (dt2 79 2 = dt 79 2) ∧ (dt2 79 9 = dt 79 9) ∧ (dt2 79 10 = dt 79 10) ∧ (dt2 79 12 = dt 79 12)) ∨ (r = some (.inl 1) ∧ (RSX 1 b n i dt2 1 ((gB_ (KF 1 b n) (VF b n) 0) i)) ∧ (dt 79 15 + dt2 79 11 ≤ dt2 79 15 + dt 79 11) ∧ (dt 79 11 + 1 ≤ dt2 79 11) ∧ (dt2 79 15 ≤ 500) ∧ (RXD dt dt2 ((rB (KF 1 b n) (VF b n) 0) i)) ∧ (dt2 79 2 = dt 79 2) ∧ (dt2 79 9 = dt 79 9) ∧ (dt2 79 10 = dt 79 10) ∧ (dt2 79 12 = dt 79 12) ∧ (dt2 79 17 = dt 79 17) ∧ (dt2 79 20 = dt 79 20)))) := fun z0 z1 z2 z3 z4 z5 z6 z7 z8 z9 z10 z11 z12 z13 z14 z15 z16 z17 z18 z19 z20 => lv_X6_any_g z0 z1 z2 z3 z4 z5 z6 z7 z8 z9 z10 z11 z12 z13 z14 z15 z16 0 g1 z17 z18 z19 z20
    exact ⟨g0, g1, g2⟩
  | j + 1 => by
    obtain ⟨h_X6_one, h_X6_every, h_X6_any⟩ := lv_all_X6_one_g j
    have g0 : ∀ (L : Nat) (xs : Nat → Int32) (sio : Option Nat) (d : Nat) (dt : Nat → Nat → Int) (hI : InvC dt) (b : Nat → Int) (n t i : Nat) (hbb : mB (dt 85) (dt 79 12) = b) (hnn : dt 79 12 = (n : Int)) (hz : KZ (KF 1 b n) t) (ht : t ≤ 500) (hc : CUR 1 b n dt i) (hi : i ≤ t) (hn5 : n ≤ 500) (h_p0 : dt 79 9 = 1) (h_p1 : dt 79 11 ≤ dt 79 15) (h_p2 : dt 79 20 + (((j + 1) : Nat) : Int) = 8) (h_p3 : 3 * (j + 1) ≤ d), GO (am_XX L xs sio) (d + 10) 170 0 [some (.inr (.inr (some 79))), none] [] (SH, dt) (fun r w2 => ∃ dt2 : Nat → Nat → Int, w2 = (SH, dt2) ∧ InvC dt2 ∧ Fr [79, 84] dt dt2 ∧ ((r = some (.inl 0) ∧ (RSX 1 b n i dt2 0 ((gC (KF 1 b n) (VF b n) (j + 1)) i)) ∧ (dt2 79 2 = dt 79 2) ∧ (dt2 79 9 = dt 79 9) ∧ (dt2 79 10 = dt 79 10) ∧ (dt2 79 12 = dt 79 12)) ∨ (r = some (.inl 1) ∧ (RSX 1 b n i dt2 1 ((gC (KF 1 b n) (VF b n) (j + 1)) i)) ∧ (dt 79 15 + dt2 79 11 ≤ dt2 79 15 + dt 79 11) ∧ (dt 79 11 + 1 ≤ dt2 79 11) ∧ (dt2 79 15 ≤ 500) ∧ (RXD dt dt2 ((rC (KF 1 b n) (VF b n) (j + 1)) i)) ∧ (dt2 79 2 = dt 79 2) ∧ (dt2 79 9 = dt 79 9) ∧ (dt2 79 10 = dt 79 10) ∧ (dt2 79 12 = dt 79 12) ∧ (dt2 79 17 = dt 79 17) ∧ (dt2 79 20 = dt 79 20)))) := by
      intro z0 z1 z2 z3 z4 z5 z6 z7 z8 z9 z10 z11 z12 z13 z14 z15 z16 z17 z18 z19 z20
      have y := lv_X6_one_g z0 z1 z2 (z3 - 3) z4 z5 z6 z7 z8 z9 z10 z11 z12 z13 z14 z15 z16 j h_X6_one h_X6_every h_X6_any z17 z18 z19 (by omega)
      rw [show z3 - 3 + 13 = z3 + 10 by first | with_reducible assumption | omega] at y
      exact y
    have g1 : ∀ (L : Nat) (xs : Nat → Int32) (sio : Option Nat) (d : Nat) (dt : Nat → Nat → Int) (hI : InvC dt) (b : Nat → Int) (n t i : Nat) (hbb : mB (dt 85) (dt 79 12) = b) (hnn : dt 79 12 = (n : Int)) (hz : KZ (KF 1 b n) t) (ht : t ≤ 500) (hc : CUR 1 b n dt i) (hi : i ≤ t) (hn5 : n ≤ 500) (h_p0 : dt 79 9 = 1) (h_p1 : dt 79 11 ≤ dt 79 15) (h_p2 : dt 79 20 + (((j + 1) : Nat) : Int) = 8) (h_p3 : 3 * (j + 1) ≤ d), GO (am_XX L xs sio) (d + 11) 169 0 [some (.inr (.inr (some 79)))] [] (SH, dt) (fun r w2 => ∃ dt2 : Nat → Nat → Int, w2 = (SH, dt2) ∧ InvC dt2 ∧ Fr [79, 84] dt dt2 ∧ ((r = some (.inl 0) ∧ (RSX 1 b n i dt2 0 ((gEv (KF 1 b n) (VF b n) (j + 1)) i)) ∧ (dt2 79 2 = dt 79 2) ∧ (dt2 79 9 = dt 79 9) ∧ (dt2 79 10 = dt 79 10) ∧ (dt2 79 12 = dt 79 12)) ∨ (r = some (.inl 1) ∧ (RSX 1 b n i dt2 1 ((gEv (KF 1 b n) (VF b n) (j + 1)) i)) ∧ (dt 79 15 + dt2 79 11 ≤ dt2 79 15 + dt 79 11) ∧ (dt 79 11 + 1 ≤ dt2 79 11) ∧ (dt2 79 15 ≤ 500) ∧ (RXD dt dt2 ((rEv (KF 1 b n) (rC (KF 1 b n) (VF b n) (j + 1)) (gC (KF 1 b n) (VF b n) (j + 1))) i)) ∧ (dt2 79 2 = dt 79 2) ∧ (dt2 79 9 = dt 79 9) ∧ (dt2 79 10 = dt 79 10) ∧ (dt2 79 12 = dt 79 12) ∧ (dt2 79 17 = dt 79 17) ∧ (dt2 79 20 = dt 79 20)))) := fun z0 z1 z2 z3 z4 z5 z6 z7 z8 z9 z10 z11 z12 z13 z14 z15 z16 z17 z18 z19 z20 => lv_X6_every_g z0 z1 z2 z3 z4 z5 z6 z7 z8 z9 z10 z11 z12 z13 z14 z15 z16 (j + 1) g0 z17 z18 z19 z20
    have g2 : ∀ (L : Nat) (xs : Nat → Int32) (sio : Option Nat) (d : Nat) (dt : Nat → Nat → Int) (hI : InvC dt) (b : Nat → Int) (n t i : Nat) (hbb : mB (dt 85) (dt 79 12) = b) (hnn : dt 79 12 = (n : Int)) (hz : KZ (KF 1 b n) t) (ht : t ≤ 500) (hc : CUR 1 b n dt i) (hi : i ≤ t) (hn5 : n ≤ 500) (h_p0 : dt 79 9 = 1) (h_p1 : dt 79 11 ≤ dt 79 15) (h_p2 : dt 79 20 + (((j + 1) : Nat) : Int) = 8) (h_p3 : 3 * (j + 1) ≤ d), GO (am_XX L xs sio) (d + 12) 168 0 [some (.inr (.inr (some 79)))] [] (SH, dt) (fun r w2 => ∃ dt2 : Nat → Nat → Int, w2 = (SH, dt2) ∧ InvC dt2 ∧ Fr [79, 84] dt dt2 ∧ ((r = some (.inl 0) ∧ (RSX 1 b n i dt2 0 ((gB_ (KF 1 b n) (VF b n) (j + 1)) i)) ∧ (dt2 79 2 = dt 79 2) ∧ (dt2 79 9 = dt 79 9) ∧ (dt2 79 10 = dt 79 10) ∧ (dt2 79 12 = dt 79 12)) ∨ (r = some (.inl 1) ∧ (RSX 1 b n i dt2 1 ((gB_ (KF 1 b n) (VF b n) (j + 1)) i)) ∧ (dt 79 15 + dt2 79 11 ≤ dt2 79 15 + dt 79 11) ∧ (dt 79 11 + 1 ≤ dt2 79 11) ∧ (dt2 79 15 ≤ 500) ∧ (RXD dt dt2 ((rB (KF 1 b n) (VF b n) (j + 1)) i)) ∧ (dt2 79 2 = dt 79 2) ∧ (dt2 79 9 = dt 79 9) ∧ (dt2 79 10 = dt 79 10) ∧ (dt2 79 12 = dt 79 12) ∧ (dt2 79 17 = dt 79 17) ∧ (dt2 79 20 = dt 79 20)))) := fun z0 z1 z2 z3 z4 z5 z6 z7 z8 z9 z10 z11 z12 z13 z14 z15 z16 z17 z18 z19 z20 => lv_X6_any_g z0 z1 z2 z3 z4 z5 z6 z7 z8 z9 z10 z11 z12 z13 z14 z15 z16 (j + 1) g1 z17 z18 z19 z20
    exact ⟨g0, g1, g2⟩
theorem sp_X6_any_g0 (L : Nat) (xs : Nat → Int32) (sio : Option Nat) (d : Nat) (dt : Nat → Nat → Int) (hI : InvC dt) (b : Nat → Int) (n t i : Nat) (hbb : mB (dt 85) (dt 79 12) = b) (hnn : dt 79 12 = (n : Int)) (hz : KZ (KF 1 b n) t) (ht : t ≤ 500) (hc : CUR 1 b n dt i) (hi : i ≤ t) (hn5 : n ≤ 500) (h_p0 : dt 79 9 = 1) (h_p1 : dt 79 11 ≤ dt 79 15) (h_p2 : dt 79 20 = 0) : GO (am_XX L xs sio) (d + 36) 168 0 [some (.inr (.inr (some 79)))] [] (SH, dt) (fun r w2 => ∃ dt2 : Nat → Nat → Int, w2 = (SH, dt2) ∧ InvC dt2 ∧ Fr [79, 84] dt dt2 ∧ ((r = some (.inl 0) ∧ (RSX 1 b n i dt2 0 ((gB_ (KF 1 b n) (VF b n) 8) i)) ∧ (dt2 79 2 = dt 79 2) ∧ (dt2 79 9 = dt 79 9) ∧ (dt2 79 10 = dt 79 10) ∧ (dt2 79 12 = dt 79 12)) ∨ (r = some (.inl 1) ∧ (RSX 1 b n i dt2 1 ((gB_ (KF 1 b n) (VF b n) 8) i)) ∧ (dt 79 15 + dt2 79 11 ≤ dt2 79 15 + dt 79 11) ∧ (dt 79 11 + 1 ≤ dt2 79 11) ∧ (dt2 79 15 ≤ 500) ∧ (RXD dt dt2 ((rB (KF 1 b n) (VF b n) 8) i)) ∧ (dt2 79 2 = dt 79 2) ∧ (dt2 79 9 = dt 79 9) ∧ (dt2 79 10 = dt 79 10) ∧ (dt2 79 12 = dt 79 12) ∧ (dt2 79 17 = dt 79 17) ∧ (dt2 79 20 = dt 79 20)))) := (lv_all_X6_one_g 8).2.2 L xs sio (d + 24) dt hI b n t i hbb hnn hz ht hc hi hn5 h_p0 h_p1 (by omega) (by omega)
