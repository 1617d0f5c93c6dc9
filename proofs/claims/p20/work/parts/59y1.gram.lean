set_option maxHeartbeats 1500000 in
set_option maxRecDepth 20000 in
theorem lv_X6_every_g (L : Nat) (xs : Nat → Int32) (sio : Option Nat) (d : Nat) (dt : Nat → Nat → Int) (hI : InvC dt) (b : Nat → Int) (n t i : Nat) (hbb : mB (dt 85) (dt 79 12) = b) (hnn : dt 79 12 = (n : Int)) (hz : KZ (KF 1 b n) t) (ht : t ≤ 500) (hc : CUR 1 b n dt i) (hi : i ≤ t) (hn5 : n ≤ 500) (j : Nat) (IH_X6_one : ∀ (L : Nat) (xs : Nat → Int32) (sio : Option Nat) (d : Nat) (dt : Nat → Nat → Int) (hI : InvC dt) (b : Nat → Int) (n t i : Nat) (hbb : mB (dt 85) (dt 79 12) = b) (hnn : dt 79 12 = (n : Int)) (hz : KZ (KF 1 b n) t) (ht : t ≤ 500) (hc : CUR 1 b n dt i) (hi : i ≤ t) (hn5 : n ≤ 500) (h_p0 : dt 79 9 = 1) (h_p1 : dt 79 11 ≤ dt 79 15) (h_p2 : dt 79 20 + ((j : Nat) : Int) = 8) (h_p3 : 3 * j ≤ d), GO (am_XX L xs sio) (d + 10) 170 0 [some (.inr (.inr (some 79))), none] [] (SH, dt) (fun r w2 => ∃ dt2 : Nat → Nat → Int, w2 = (SH, dt2) ∧ InvC dt2 ∧ Fr [79, 84] dt dt2 ∧ ((r = some (.inl 0) ∧ (RSX 1 b n i dt2 0 ((gC (KF 1 b n) (VF b n) j) i)) ∧ (dt2 79 2 = dt 79 2) ∧ (dt2 79 9 = dt 79 9) ∧ (dt2 79 10 = dt 79 10) ∧ (dt2 79 12 = dt 79 12)) ∨ (r = some (.inl 1) ∧ (RSX 1 b n i dt2 1 ((gC (KF 1 b n) (VF b n) j) i)) ∧ (dt 79 15 + dt2 79 11 ≤ dt2 79 15 + dt 79 11) ∧ (dt 79 11 + 1 ≤ dt2 79 11) ∧ (dt2 79 15 ≤ 500) ∧ (dt2 79 2 = dt 79 2) ∧ (dt2 79 9 = dt 79 9) ∧ (dt2 79 10 = dt 79 10) ∧ (dt2 79 12 = dt 79 12) ∧ (dt2 79 17 = dt 79 17) ∧ (dt2 79 20 = dt 79 20)))))   (h_p0 : dt 79 9 = 1) (h_p1 : dt 79 11 ≤ dt 79 15) (h_p2 : dt 79 20 + ((j : Nat) : Int) = 8) (h_p3 : 3 * j ≤ d) : GO (am_XX L xs sio) (d + 11) 169 0 [some (.inr (.inr (some 79)))] [] (SH, dt) (fun r w2 => ∃ dt2 : Nat → Nat → Int, w2 = (SH, dt2) ∧ InvC dt2 ∧ Fr [79, 84] dt dt2 ∧ ((r = some (.inl 0) ∧ (RSX 1 b n i dt2 0 ((gEv (KF 1 b n) (VF b n) j) i)) ∧ (dt2 79 2 = dt 79 2) ∧ (dt2 79 9 = dt 79 9) ∧ (dt2 79 10 = dt 79 10) ∧ (dt2 79 12 = dt 79 12)) ∨ (r = some (.inl 1) ∧ (RSX 1 b n i dt2 1 ((gEv (KF 1 b n) (VF b n) j) i)) ∧ (dt 79 15 + dt2 79 11 ≤ dt2 79 15 + dt 79 11) ∧ (dt 79 11 + 1 ≤ dt2 79 11) ∧ (dt2 79 15 ≤ 500) ∧ (dt2 79 2 = dt 79 2) ∧ (dt2 79 9 = dt 79 9) ∧ (dt2 79 10 = dt 79 10) ∧ (dt2 79 12 = dt 79 12) ∧ (dt2 79 17 = dt 79 17) ∧ (dt2 79 20 = dt 79 20)))) := by
  have hF : Fr [79, 84] dt dt := Fr_refl
  have r1 : 0 ≤ dt 79 15 ∧ dt 79 15 ≤ 500 := InvC_get hI 79 15 rfl rfl
  have r2 : 0 ≤ dt 79 11 ∧ dt 79 11 ≤ 510 := InvC_get hI 79 11 rfl rfl
  have r3 : 0 ≤ dt 79 10 ∧ dt 79 10 ≤ 24 := InvC_get hI 79 10 rfl rfl
  have r4 : 0 ≤ dt 79 20 ∧ dt 79 20 ≤ 8 := InvC_get hI 79 20 rfl rfl
  have cr0 := hid (CUR_R hc (.inr rfl))
  have cd0 := CUR_d (hc)
  have cb0 := hid (CUR_b hc)
  have cv0 := hid (CUR_v hc)
  have ck0 := hid (KZ_lt (i := i) hz)
  have c10 := hc.1
  refine go_toq PM169 (k := 1) (pc' := 1) (L' := [some (.inr (.inr (some 79)))]) (st' := [.inr (.inr (some 79))]) (w' := (SH, dt)) rfl ?_
  have u1_ := hid (And.intro (unhid cr0) (And.intro (unhid cb0) (And.intro (unhid cv0) (unhid ck0))))
  refine go_callq PM169 PM170 (Q' := _) rfl rfl rfl rfl (IH_X6_one L xs sio (d + 0) dt hI b n t i (by first | exact hbb | (rw [show dt 85 = dt 85 from funext (hF 85 (by decide)), show dt 79 12 = dt 79 12 by first | with_reducible assumption | exact unhid (by with_reducible assumption) | (first | omega | (have z_ := unhid u1_; omega))]; exact hbb)) (by first | with_reducible assumption | exact unhid (by with_reducible assumption) | exact Eq.trans (by with_reducible assumption) hnn | (first | omega | (have z_ := unhid u1_; omega))) hz ht hc hi hn5  (by first | exact True.intro | with_reducible assumption | exact unhid (by with_reducible assumption) | rfl | (first | omega | (have z_ := unhid u1_; omega)) | trivial) (by first | exact True.intro | with_reducible assumption | exact unhid (by with_reducible assumption) | rfl | (first | omega | (have z_ := unhid u1_; omega)) | trivial) (by first | exact True.intro | with_reducible assumption | exact unhid (by with_reducible assumption) | rfl | (first | omega | (have z_ := unhid u1_; omega)) | trivial) (by first | exact True.intro | with_reducible assumption | exact unhid (by with_reducible assumption) | rfl | (first | omega | (have z_ := unhid u1_; omega)) | trivial)) ?_
  rintro _ _ ⟨dt6, rfl, hI7, hF8, h5⟩
  refine ⟨rfl, ?_⟩
  have hF9 : Fr [79, 84] dt dt6 := Fr_tr hF hF8 (by decide)
  rcases h5 with ⟨rfl, h5⟩ | ⟨rfl, h5⟩
  · skip
    obtain ⟨h5_0, h5_1, h5_2, h5_3, h5_4⟩ := h5
    have w10 : dt6 79 2 = dt 79 2 := h5_1
    have w11 : dt6 79 9 = dt 79 9 := h5_2
    have w12 : dt6 79 10 = dt 79 10 := h5_3
    have w13 : dt6 79 12 = dt 79 12 := h5_4
    have fl14 := RSX_0 h5_0 rfl
    have fe15 : (gEv (KF 1 b n) (VF b n) j) i = (gC (KF 1 b n) (VF b n) j) i := (rfl : (gEv (KF 1 b n) (VF b n) j) i = (gEv (KF 1 b n) (VF b n) j) i).trans ((show (gEv (KF 1 b n) (VF b n) j) i = gB ((gC (KF 1 b n) (VF b n) j) i) (gN (KF 1 b n) (gC (KF 1 b n) (VF b n) j) 600) by rfl).trans (gB_no fl14.1))
    clear h5_1 h5_2 h5_3 h5_4
    refine go_retq PM169 (k := 2) (r := some (.inl 0)) (w1 := (SH, dt6)) rfl ?_
    exact ⟨dt6, rfl, hI7, hF9, (Or.inl ⟨rfl, ⟨by exact RSX_f fe15 fl14 (by first | rfl | with_reducible assumption | exact unhid (by with_reducible assumption) | (first | omega | (have z_ := unhid u1_; omega))) (by first | rfl | with_reducible assumption | exact unhid (by with_reducible assumption) | (first | omega | (have z_ := unhid u1_; omega))), by first | exact True.intro | with_reducible assumption | exact unhid (by with_reducible assumption) | rfl | (first | omega | (have z_ := unhid u1_; omega)) | trivial, by first | exact True.intro | with_reducible assumption | exact unhid (by with_reducible assumption) | rfl | (first | omega | (have z_ := unhid u1_; omega)) | trivial, by first | exact True.intro | with_reducible assumption | exact unhid (by with_reducible assumption) | rfl | (first | omega | (have z_ := unhid u1_; omega)) | trivial, by first | exact True.intro | with_reducible assumption | exact unhid (by with_reducible assumption) | rfl | (first | omega | (have z_ := unhid u1_; omega)) | trivial⟩⟩)⟩
  · skip
    obtain ⟨h5_0, h5_1, h5_2, h5_3, h5_4, h5_5, h5_6, h5_7, h5_8, h5_9⟩ := h5
    have w16 : dt6 79 2 = dt 79 2 := h5_4
    have w17 : dt6 79 9 = dt 79 9 := h5_5
    have w18 : dt6 79 10 = dt 79 10 := h5_6
    have w19 : dt6 79 12 = dt 79 12 := h5_7
    have w20 : dt6 79 17 = dt 79 17 := h5_8
    have w21 : dt6 79 20 = dt 79 20 := h5_9
    obtain ⟨j22, ej23, hc24⟩ := RSX_1 h5_0 (by decide)
    have hp25 : (gEv (KF 1 b n) (VF b n) j) i = (gN (KF 1 b n) (gC (KF 1 b n) (VF b n) j) 600) j22 := (rfl : (gEv (KF 1 b n) (VF b n) j) i = (gEv (KF 1 b n) (VF b n) j) i).trans ((show (gEv (KF 1 b n) (VF b n) j) i = gB ((gC (KF 1 b n) (VF b n) j) i) (gN (KF 1 b n) (gC (KF 1 b n) (VF b n) j) 600) by rfl).trans (by rw [ej23]; exact gB_0))
    have hi26 : j22 ≤ t := by have z := (fun (h : KZ (KF 1 b n) t) => gC_M (K := (KF 1 b n)) (V := (VF b n)) h j i) hz; rw [ej23] at z; have y := z rfl; simp only at y; (first | omega | (have z_ := unhid u1_; omega))
    clear cr0 cb0 cd0 cv0 ck0
    have cr27 := hid (CUR_R hc24 (.inr rfl))
    have cd28 := CUR_d (hc24)
    have cb28 := hid (CUR_b hc24)
    have cv29 := hid (CUR_v hc24)
    have ck30 := hid (KZ_lt (i := j22) hz)
    have c131 := (hc24).1
    have ci32 := hi26
    clear h5_4 h5_5 h5_6 h5_7 h5_8 h5_9
    refine go_toq PM169 (k := 1) (pc' := 9) (L' := [some (.inr (.inr (some 79)))]) (st' := []) (w' := (SH, dt6)) rfl ?_
    have loop116 : ∀ (k_ : Nat) (dt103 : Nat → Nat → Int) (hI104 : InvC dt103) (hF105 : Fr [79, 84] dt dt103) (i106 : ∃ q : Nat, (gEv (KF 1 b n) (VF b n) j) i = (gN (KF 1 b n) (gC (KF 1 b n) (VF b n) j) 600) q ∧ CUR 1 b n dt103 q ∧ q ≤ t) (i107 : dt 79 15 + dt103 79 11 ≤ dt103 79 15 + dt 79 11) (i108 : dt 79 11 + 1 ≤ dt103 79 11) (i109 : dt103 79 15 ≤ 500) (i110 : dt103 79 2 = dt 79 2) (i111 : dt103 79 9 = dt 79 9) (i112 : dt103 79 10 = dt 79 10) (i113 : dt103 79 12 = dt 79 12) (i114 : dt103 79 17 = dt 79 17) (i115 : dt103 79 20 = dt 79 20), (502 - dt103 79 15).toNat < k_ → GO (am_XX L xs sio) (d + 11) 169 9 [some (.inr (.inr (some 79)))] [] (SH, dt103) (fun r w2 => ∃ dt2 : Nat → Nat → Int, w2 = (SH, dt2) ∧ InvC dt2 ∧ Fr [79, 84] dt dt2 ∧ ((r = some (.inl 0) ∧ (RSX 1 b n i dt2 0 ((gEv (KF 1 b n) (VF b n) j) i)) ∧ (dt2 79 2 = dt 79 2) ∧ (dt2 79 9 = dt 79 9) ∧ (dt2 79 10 = dt 79 10) ∧ (dt2 79 12 = dt 79 12)) ∨ (r = some (.inl 1) ∧ (RSX 1 b n i dt2 1 ((gEv (KF 1 b n) (VF b n) j) i)) ∧ (dt 79 15 + dt2 79 11 ≤ dt2 79 15 + dt 79 11) ∧ (dt 79 11 + 1 ≤ dt2 79 11) ∧ (dt2 79 15 ≤ 500) ∧ (dt2 79 2 = dt 79 2) ∧ (dt2 79 9 = dt 79 9) ∧ (dt2 79 10 = dt 79 10) ∧ (dt2 79 12 = dt 79 12) ∧ (dt2 79 17 = dt 79 17) ∧ (dt2 79 20 = dt 79 20)))) := by
      intro k_
      induction k_ with
      | zero => intro dt103 hI104 hF105 i106 i107 i108 i109 i110 i111 i112 i113 i114 i115 hm; exact absurd hm (Nat.not_lt_zero _)
      | succ k_ ih_loop116 =>
        intro dt103 hI104 hF105 i106 i107 i108 i109 i110 i111 i112 i113 i114 i115 hm
        clear cr27 cb28 cd28 cv29 ck30
        obtain ⟨gq, hpq, hcq, hiq⟩ := i106
        have crq := CUR_R hcq (.inr rfl)
        have cbq := CUR_b hcq
        have cvq := CUR_v hcq
        have ckq := KZ_lt (i := gq) hz
        have c1q := hcq.1
        have r117 : (-2147483648) ≤ dt103 79 14 ∧ dt103 79 14 ≤ 2147483647 := InvC_get hI104 79 14 rfl rfl
        refine go_ifq PM169 (k := 3) (p1 := 40) (p2 := 17) (L' := [some (.inr (.inr (some 79)))]) (st' := []) (w' := (SH, dt103)) rfl (c_ne (a := dt103 79 14) (b := 5) (by first | exact bnd r117 (by decide) (by decide) | exact ⟨by omega, by omega⟩) ⟨by decide, by decide⟩) (fun c118 => ?_) (fun c118 => ?_)
        · skip
          replace c118 := hid c118
          refine go_retq PM169 (k := 1) (r := some (.inl 1)) (w1 := (SH, dt103)) rfl ?_
          exact ⟨dt103, rfl, hI104, hF105, (Or.inr ⟨rfl, ⟨by exact RSX_ok (hpq.trans (by show gN _ _ 600 gq = _; rw [gN_u (gC_M hz _) (by (first | omega | (have z0_ := unhid c118; omega))) (by (first | omega | (have z0_ := unhid c118; omega))), if_neg (by (first | omega | (have z0_ := unhid c118; omega)))])) hcq, by first | exact True.intro | with_reducible assumption | exact unhid (by with_reducible assumption) | rfl | (first | omega | (have z0_ := unhid c118; omega)) | trivial, by first | exact True.intro | with_reducible assumption | exact unhid (by with_reducible assumption) | rfl | (first | omega | (have z0_ := unhid c118; omega)) | trivial, by exact (InvC_get (by assumption) 79 15 rfl rfl).2, by first | exact True.intro | with_reducible assumption | exact unhid (by with_reducible assumption) | rfl | (first | omega | (have z0_ := unhid c118; omega)) | trivial, by first | exact True.intro | with_reducible assumption | exact unhid (by with_reducible assumption) | rfl | (first | omega | (have z0_ := unhid c118; omega)) | trivial, by first | exact True.intro | with_reducible assumption | exact unhid (by with_reducible assumption) | rfl | (first | omega | (have z0_ := unhid c118; omega)) | trivial, by first | exact True.intro | with_reducible assumption | exact unhid (by with_reducible assumption) | rfl | (first | omega | (have z0_ := unhid c118; omega)) | trivial, by first | exact True.intro | with_reducible assumption | exact unhid (by with_reducible assumption) | rfl | (first | omega | (have z0_ := unhid c118; omega)) | trivial, by first | exact True.intro | with_reducible assumption | exact unhid (by with_reducible assumption) | rfl | (first | omega | (have z0_ := unhid c118; omega)) | trivial⟩⟩)⟩
        · skip
          refine go_toq PM169 (k := 1) (pc' := 18) (L' := [some (.inr (.inr (some 79)))]) (st' := [.inr (.inr (some 79))]) (w' := (SH, dt103)) rfl ?_
          refine go_callq PM169 PM159 (Q' := _) rfl rfl rfl rfl (sp_X6_next0_p1 L xs sio (d + 4) dt103 hI104   (by first | exact True.intro | with_reducible assumption | rfl | omega | trivial) (by first | exact True.intro | with_reducible assumption | rfl | omega | trivial)) ?_
          rintro _ _ ⟨dt120, rfl, hI121, hF122, h119⟩
          refine ⟨rfl, ?_⟩
          have hF123 : Fr [79, 84] dt dt120 := Fr_tr hF105 hF122 (by decide)
          rcases h119 with ⟨rfl, h119⟩
          obtain ⟨h119_0, h119_1, h119_2, h119_3, h119_4, h119_5, h119_6, h119_7, h119_8⟩ := h119
          have w124 : dt120 79 2 = dt103 79 2 := h119_2
          have w125 : dt120 79 9 = dt103 79 9 := h119_3
          have w126 : dt120 79 10 = dt103 79 10 := h119_4
          have w127 : dt120 79 11 = dt103 79 11 := h119_5
          have w128 : dt120 79 12 = dt103 79 12 := h119_6
          have w129 : dt120 79 17 = dt103 79 17 := h119_7
          have w130 : dt120 79 20 = dt103 79 20 := h119_8
          have hq131 := h119_0
          rw [show dt103 85 = dt 85 from funext (hF105 85 (by decide)), show dt103 79 12 = dt 79 12 by first | with_reducible assumption | omega, hbb, show (dt 79 12).toNat = n from (congrArg Int.toNat hnn).trans (Int.toNat_natCast n)] at hq131
          have hc132 : CUR 1 b n dt120 (gq + 1) := CUR_n hcq hq131
          have hi133 : gq + 1 ≤ t := by omega
          have av134 : dt103 79 15 + 1 ≤ dt103 79 13 := by omega
          have hp135 : (gEv (KF 1 b n) (VF b n) j) i = (fun i => gB (gC (KF 1 b n) (VF b n) j i) (gN (KF 1 b n) (gC (KF 1 b n) (VF b n) j) 600)) (gq + 1) := hpq.trans (by show gN _ _ 600 gq = _; rw [gN_u (gC_M hz _) (by omega) (by omega)]; first | (rw [if_pos (by omega)]; done) | (rw [if_pos (by omega)]; rfl))
          clear crq cbq cvq ckq
          have cr136 := hid (CUR_R hc132 (.inr rfl))
          have cd137 := CUR_d (hc132)
          have cb137 := hid (CUR_b hc132)
          have cv138 := hid (CUR_v hc132)
          have ck139 := hid (KZ_lt (i := (gq + 1)) hz)
          have c1140 := (hc132).1
          have ci141 := hi133
          clear h119_2 h119_3 h119_4 h119_5 h119_6 h119_7 h119_8
          refine go_toq PM169 (k := 1) (pc' := 22) (L' := [some (.inr (.inr (some 79)))]) (st' := [.inr (.inr (some 79))]) (w' := (SH, dt120)) rfl ?_
          have u2_ := hid (And.intro (unhid cr136) (And.intro (unhid cb137) (And.intro (unhid cv138) (unhid ck139))))
          refine go_callq PM169 PM170 (Q' := _) rfl rfl rfl rfl (IH_X6_one L xs sio (d + 0) dt120 hI121 b n t (gq + 1) (by first | exact hbb | (rw [show dt120 85 = dt 85 from funext (hF123 85 (by decide)), show dt120 79 12 = dt 79 12 by first | with_reducible assumption | exact unhid (by with_reducible assumption) | (first | omega | (have z_ := unhid u2_; omega))]; exact hbb)) (by first | with_reducible assumption | exact unhid (by with_reducible assumption) | exact Eq.trans (by with_reducible assumption) hnn | (first | omega | (have z_ := unhid u2_; omega))) hz ht hc132 hi133 hn5  (by first | exact True.intro | with_reducible assumption | exact unhid (by with_reducible assumption) | rfl | (first | omega | (have z_ := unhid u2_; omega)) | trivial) (by first | exact True.intro | with_reducible assumption | exact unhid (by with_reducible assumption) | rfl | (first | omega | (have z_ := unhid u2_; omega)) | trivial) (by first | exact True.intro | with_reducible assumption | exact unhid (by with_reducible assumption) | rfl | (first | omega | (have z_ := unhid u2_; omega)) | trivial) (by first | exact True.intro | with_reducible assumption | exact unhid (by with_reducible assumption) | rfl | (first | omega | (have z_ := unhid u2_; omega)) | trivial)) ?_
          rintro _ _ ⟨dt143, rfl, hI144, hF145, h142⟩
          refine ⟨rfl, ?_⟩
          have hF146 : Fr [79, 84] dt dt143 := Fr_tr hF123 hF145 (by decide)
          rcases h142 with ⟨rfl, h142⟩ | ⟨rfl, h142⟩
          · skip
            obtain ⟨h142_0, h142_1, h142_2, h142_3, h142_4⟩ := h142
            have w147 : dt143 79 2 = dt103 79 2 := h142_1.trans w124
            have w148 : dt143 79 9 = dt103 79 9 := h142_2.trans w125
            have w149 : dt143 79 10 = dt103 79 10 := h142_3.trans w126
            have w150 : dt143 79 12 = dt103 79 12 := h142_4.trans w128
            have fl151 := RSX_0 h142_0 rfl
            have fe152 : (gEv (KF 1 b n) (VF b n) j) i = (gC (KF 1 b n) (VF b n) j) (gq + 1) := hp135.trans ((show (fun i => gB (gC (KF 1 b n) (VF b n) j i) (gN (KF 1 b n) (gC (KF 1 b n) (VF b n) j) 600)) (gq + 1) = gB ((gC (KF 1 b n) (VF b n) j) (gq + 1)) (gN (KF 1 b n) (gC (KF 1 b n) (VF b n) j) 600) by rfl).trans (gB_no fl151.1))
            clear h142_1 w124 h142_2 w125 h142_3 h142_4 w128
            refine go_retq PM169 (k := 2) (r := some (.inl 0)) (w1 := (SH, dt143)) rfl ?_
            exact ⟨dt143, rfl, hI144, hF146, (Or.inl ⟨rfl, ⟨by exact RSX_f fe152 fl151 (by first | rfl | with_reducible assumption | exact unhid (by with_reducible assumption) | (first | omega | (have z_ := unhid u2_; omega))) (by first | rfl | with_reducible assumption | exact unhid (by with_reducible assumption) | (first | omega | (have z_ := unhid u2_; omega))), by first | exact True.intro | with_reducible assumption | exact unhid (by with_reducible assumption) | rfl | (first | omega | (have z_ := unhid u2_; omega)) | trivial, by first | exact True.intro | with_reducible assumption | exact unhid (by with_reducible assumption) | rfl | (first | omega | (have z_ := unhid u2_; omega)) | trivial, by first | exact True.intro | with_reducible assumption | exact unhid (by with_reducible assumption) | rfl | (first | omega | (have z_ := unhid u2_; omega)) | trivial, by first | exact True.intro | with_reducible assumption | exact unhid (by with_reducible assumption) | rfl | (first | omega | (have z_ := unhid u2_; omega)) | trivial⟩⟩)⟩
          · skip
            obtain ⟨h142_0, h142_1, h142_2, h142_3, h142_4, h142_5, h142_6, h142_7, h142_8, h142_9⟩ := h142
            have w153 : dt143 79 2 = dt103 79 2 := h142_4.trans w124
            have w154 : dt143 79 9 = dt103 79 9 := h142_5.trans w125
            have w155 : dt143 79 10 = dt103 79 10 := h142_6.trans w126
            have w156 : dt143 79 12 = dt103 79 12 := h142_7.trans w128
            have w157 : dt143 79 17 = dt103 79 17 := h142_8.trans w129
            have w158 : dt143 79 20 = dt103 79 20 := h142_9.trans w130
            obtain ⟨j159, ej160, hc161⟩ := RSX_1 h142_0 (by decide)
            have hp162 : (gEv (KF 1 b n) (VF b n) j) i = (gN (KF 1 b n) (gC (KF 1 b n) (VF b n) j) 600) j159 := hp135.trans ((show (fun i => gB (gC (KF 1 b n) (VF b n) j i) (gN (KF 1 b n) (gC (KF 1 b n) (VF b n) j) 600)) (gq + 1) = gB ((gC (KF 1 b n) (VF b n) j) (gq + 1)) (gN (KF 1 b n) (gC (KF 1 b n) (VF b n) j) 600) by rfl).trans (by rw [ej160]; exact gB_0))
            have hi163 : j159 ≤ t := by have z := (fun (h : KZ (KF 1 b n) t) => gC_M (K := (KF 1 b n)) (V := (VF b n)) h j (gq + 1)) hz; rw [ej160] at z; have y := z rfl; simp only at y; (first | omega | (have z_ := unhid u2_; omega))
            clear cr136 cb137 cd137 cv138 ck139
            have cr164 := hid (CUR_R hc161 (.inr rfl))
            have cd165 := CUR_d (hc161)
            have cb165 := hid (CUR_b hc161)
            have cv166 := hid (CUR_v hc161)
            have ck167 := hid (KZ_lt (i := j159) hz)
            have c1168 := (hc161).1
            have ci169 := hi163
            clear h142_4 w124 h142_5 w125 h142_6 h142_7 w128 h142_8 w129 h142_9 w130
            refine go_toq PM169 (k := 4) (pc' := 34) (L' := [some (.inr (.inr (some 79)))]) (st' := [.inl 0, .inl 15, .inr (.inr (some 79))]) (w' := (SH, dt143)) rfl ?_
            have u3_ := hid (And.intro (unhid cr164) (And.intro (unhid cb165) (And.intro (unhid cv166) (unhid ck167))))
            refine go_callq PM169 PM163 (Q' := _) rfl rfl rfl rfl (sp_X6_lay_g L xs sio (d + 10) dt143 hI144  15 ⟨by decide, by decide⟩ 0 ⟨by decide, by decide⟩ (by first | exact True.intro | with_reducible assumption | exact unhid (by with_reducible assumption) | rfl | (first | omega | (have z_ := unhid u3_; omega)) | trivial)) ?_
            rintro _ _ ⟨dt171, rfl, hI172, hF173, h170⟩
            refine ⟨rfl, ?_⟩
            have hF174 : Fr [79, 84] dt dt171 := Fr_tr hF146 hF173 (by decide)
            rcases h170 with ⟨rfl, h170⟩
            obtain ⟨h170_0, h170_1, h170_2, h170_3, h170_4, h170_5, h170_6, h170_7, h170_8, h170_9, h170_10⟩ := h170
            have w175 : dt171 79 2 = dt103 79 2 := h170_1.trans w153
            have w176 : dt171 79 9 = dt103 79 9 := h170_2.trans w154
            have w177 : dt171 79 10 = dt103 79 10 := h170_3.trans w155
            have w178 : dt171 79 12 = dt103 79 12 := h170_4.trans w156
            have w179 : dt171 79 13 = dt143 79 13 := h170_5
            have w180 : dt171 79 14 = dt143 79 14 := h170_6
            have w181 : dt171 79 15 = dt143 79 15 := h170_7
            have w182 : dt171 79 16 = dt143 79 16 := h170_8
            have w183 : dt171 79 17 = dt103 79 17 := h170_9.trans w157
            have w184 : dt171 79 20 = dt103 79 20 := h170_10.trans w158
            have hc185 : CUR 1 b n dt171 j159 := CUR_sm hc161 (by first | with_reducible assumption | exact unhid (by with_reducible assumption) | rfl | (first | omega | (have z_ := unhid u3_; omega))) (by first | with_reducible assumption | exact unhid (by with_reducible assumption) | rfl | (first | omega | (have z_ := unhid u3_; omega))) (by first | with_reducible assumption | exact unhid (by with_reducible assumption) | rfl | (first | omega | (have z_ := unhid u3_; omega))) (by first | with_reducible assumption | exact unhid (by with_reducible assumption) | rfl | (first | omega | (have z_ := unhid u3_; omega)))
            clear h170_1 w153 h170_2 w154 h170_3 h170_4 w156 h170_5 h170_6 h170_7 h170_8 h170_9 w157 h170_10 w158
            refine go_toq PM169 (k := 1) (pc' := 9) (L' := [some (.inr (.inr (some 79)))]) (st' := []) (w' := (SH, dt171)) rfl ?_
            exact GO.le (ih_loop116 dt171 hI172 hF174 (by exact ⟨_, hp162, hc185, hi163⟩) (by first | with_reducible assumption | exact unhid (by with_reducible assumption) | (first | omega | (have z_ := unhid u3_; omega)) | exact ⟨_, hp162, hc185, hi163⟩) (by first | with_reducible assumption | exact unhid (by with_reducible assumption) | (first | omega | (have z_ := unhid u3_; omega)) | exact ⟨_, hp162, hc185, hi163⟩) (by first | with_reducible assumption | exact unhid (by with_reducible assumption) | (first | omega | (have z_ := unhid u3_; omega)) | exact ⟨_, hp162, hc185, hi163⟩) (by first | with_reducible assumption | exact unhid (by with_reducible assumption) | (first | omega | (have z_ := unhid u3_; omega)) | exact ⟨_, hp162, hc185, hi163⟩) (by first | with_reducible assumption | exact unhid (by with_reducible assumption) | (first | omega | (have z_ := unhid u3_; omega)) | exact ⟨_, hp162, hc185, hi163⟩) (by first | with_reducible assumption | exact unhid (by with_reducible assumption) | (first | omega | (have z_ := unhid u3_; omega)) | exact ⟨_, hp162, hc185, hi163⟩) (by first | with_reducible assumption | exact unhid (by with_reducible assumption) | (first | omega | (have z_ := unhid u3_; omega)) | exact ⟨_, hp162, hc185, hi163⟩) (by first | with_reducible assumption | exact unhid (by with_reducible assumption) | (first | omega | (have z_ := unhid u3_; omega)) | exact ⟨_, hp162, hc185, hi163⟩) (by first | with_reducible assumption | exact unhid (by with_reducible assumption) | (first | omega | (have z_ := unhid u3_; omega)) | exact ⟨_, hp162, hc185, hi163⟩) (by (first | omega | (have z_ := unhid u3_; omega)))) ⟨.inl rfl, trivial⟩
    have u4_ := hid (And.intro (unhid cr27) (And.intro (unhid cb28) (And.intro (unhid cv29) (unhid ck30))))
    exact GO.le (loop116 _ dt6 hI7 hF9 (by exact ⟨_, hp25, hc24, hi26⟩) (by first | with_reducible assumption | exact unhid (by with_reducible assumption) | (first | omega | (have z_ := unhid u4_; omega)) | exact ⟨_, hp25, hc24, hi26⟩) (by first | with_reducible assumption | exact unhid (by with_reducible assumption) | (first | omega | (have z_ := unhid u4_; omega)) | exact ⟨_, hp25, hc24, hi26⟩) (by first | with_reducible assumption | exact unhid (by with_reducible assumption) | (first | omega | (have z_ := unhid u4_; omega)) | exact ⟨_, hp25, hc24, hi26⟩) (by first | with_reducible assumption | exact unhid (by with_reducible assumption) | (first | omega | (have z_ := unhid u4_; omega)) | exact ⟨_, hp25, hc24, hi26⟩) (by first | with_reducible assumption | exact unhid (by with_reducible assumption) | (first | omega | (have z_ := unhid u4_; omega)) | exact ⟨_, hp25, hc24, hi26⟩) (by first | with_reducible assumption | exact unhid (by with_reducible assumption) | (first | omega | (have z_ := unhid u4_; omega)) | exact ⟨_, hp25, hc24, hi26⟩) (by first | with_reducible assumption | exact unhid (by with_reducible assumption) | (first | omega | (have z_ := unhid u4_; omega)) | exact ⟨_, hp25, hc24, hi26⟩) (by first | with_reducible assumption | exact unhid (by with_reducible assumption) | (first | omega | (have z_ := unhid u4_; omega)) | exact ⟨_, hp25, hc24, hi26⟩) (by first | with_reducible assumption | exact unhid (by with_reducible assumption) | (first | omega | (have z_ := unhid u4_; omega)) | exact ⟨_, hp25, hc24, hi26⟩) (Nat.lt_succ_self _)) ⟨.inl rfl, trivial⟩
set_option maxHeartbeats 1500000 in
set_option maxRecDepth 20000 in
theorem lv_X6_any_g (L : Nat) (xs : Nat → Int32) (sio : Option Nat) (d : Nat) (dt : Nat → Nat → Int) (hI : InvC dt) (b : Nat → Int) (n t i : Nat) (hbb : mB (dt 85) (dt 79 12) = b) (hnn : dt 79 12 = (n : Int)) (hz : KZ (KF 1 b n) t) (ht : t ≤ 500) (hc : CUR 1 b n dt i) (hi : i ≤ t) (hn5 : n ≤ 500) (j : Nat) (IH_X6_every : ∀ (L : Nat) (xs : Nat → Int32) (sio : Option Nat) (d : Nat) (dt : Nat → Nat → Int) (hI : InvC dt) (b : Nat → Int) (n t i : Nat) (hbb : mB (dt 85) (dt 79 12) = b) (hnn : dt 79 12 = (n : Int)) (hz : KZ (KF 1 b n) t) (ht : t ≤ 500) (hc : CUR 1 b n dt i) (hi : i ≤ t) (hn5 : n ≤ 500) (h_p0 : dt 79 9 = 1) (h_p1 : dt 79 11 ≤ dt 79 15) (h_p2 : dt 79 20 + ((j : Nat) : Int) = 8) (h_p3 : 3 * j ≤ d), GO (am_XX L xs sio) (d + 11) 169 0 [some (.inr (.inr (some 79)))] [] (SH, dt) (fun r w2 => ∃ dt2 : Nat → Nat → Int, w2 = (SH, dt2) ∧ InvC dt2 ∧ Fr [79, 84] dt dt2 ∧ ((r = some (.inl 0) ∧ (RSX 1 b n i dt2 0 ((gEv (KF 1 b n) (VF b n) j) i)) ∧ (dt2 79 2 = dt 79 2) ∧ (dt2 79 9 = dt 79 9) ∧ (dt2 79 10 = dt 79 10) ∧ (dt2 79 12 = dt 79 12)) ∨ (r = some (.inl 1) ∧ (RSX 1 b n i dt2 1 ((gEv (KF 1 b n) (VF b n) j) i)) ∧ (dt 79 15 + dt2 79 11 ≤ dt2 79 15 + dt 79 11) ∧ (dt 79 11 + 1 ≤ dt2 79 11) ∧ (dt2 79 15 ≤ 500) ∧ (dt2 79 2 = dt 79 2) ∧ (dt2 79 9 = dt 79 9) ∧ (dt2 79 10 = dt 79 10) ∧ (dt2 79 12 = dt 79 12) ∧ (dt2 79 17 = dt 79 17) ∧ (dt2 79 20 = dt 79 20)))))   (h_p0 : dt 79 9 = 1) (h_p1 : dt 79 11 ≤ dt 79 15) (h_p2 : dt 79 20 + ((j : Nat) : Int) = 8) (h_p3 : 3 * j ≤ d) : GO (am_XX L xs sio) (d + 12) 168 0 [some (.inr (.inr (some 79)))] [] (SH, dt) (fun r w2 => ∃ dt2 : Nat → Nat → Int, w2 = (SH, dt2) ∧ InvC dt2 ∧ Fr [79, 84] dt dt2 ∧ ((r = some (.inl 0) ∧ (RSX 1 b n i dt2 0 ((gB_ (KF 1 b n) (VF b n) j) i)) ∧ (dt2 79 2 = dt 79 2) ∧ (dt2 79 9 = dt 79 9) ∧ (dt2 79 10 = dt 79 10) ∧ (dt2 79 12 = dt 79 12)) ∨ (r = some (.inl 1) ∧ (RSX 1 b n i dt2 1 ((gB_ (KF 1 b n) (VF b n) j) i)) ∧ (dt 79 15 + dt2 79 11 ≤ dt2 79 15 + dt 79 11) ∧ (dt 79 11 + 1 ≤ dt2 79 11) ∧ (dt2 79 15 ≤ 500) ∧ (dt2 79 2 = dt 79 2) ∧ (dt2 79 9 = dt 79 9) ∧ (dt2 79 10 = dt 79 10) ∧ (dt2 79 12 = dt 79 12) ∧ (dt2 79 17 = dt 79 17) ∧ (dt2 79 20 = dt 79 20)))) := by
  have hF : Fr [79, 84] dt dt := Fr_refl
  have r1 : 0 ≤ dt 79 15 ∧ dt 79 15 ≤ 500 := InvC_get hI 79 15 rfl rfl
  have r2 : 0 ≤ dt 79 11 ∧ dt 79 11 ≤ 510 := InvC_get hI 79 11 rfl rfl
  have r3 : 0 ≤ dt 79 10 ∧ dt 79 10 ≤ 24 := InvC_get hI 79 10 rfl rfl
  have r4 : 0 ≤ dt 79 20 ∧ dt 79 20 ≤ 8 := InvC_get hI 79 20 rfl rfl
  have cr0 := hid (CUR_R hc (.inr rfl))
  have cd0 := CUR_d (hc)
  have cb0 := hid (CUR_b hc)
  have cv0 := hid (CUR_v hc)
  have ck0 := hid (KZ_lt (i := i) hz)
  have c10 := hc.1
  refine go_toq PM168 (k := 1) (pc' := 1) (L' := [some (.inr (.inr (some 79)))]) (st' := [.inr (.inr (some 79))]) (w' := (SH, dt)) rfl ?_
  have u5_ := hid (And.intro (unhid cr0) (And.intro (unhid cb0) (And.intro (unhid cv0) (unhid ck0))))
  refine go_callq PM168 PM169 (Q' := _) rfl rfl rfl rfl (IH_X6_every L xs sio (d + 0) dt hI b n t i (by first | exact hbb | (rw [show dt 85 = dt 85 from funext (hF 85 (by decide)), show dt 79 12 = dt 79 12 by first | with_reducible assumption | exact unhid (by with_reducible assumption) | (first | omega | (have z_ := unhid u5_; omega))]; exact hbb)) (by first | with_reducible assumption | exact unhid (by with_reducible assumption) | exact Eq.trans (by with_reducible assumption) hnn | (first | omega | (have z_ := unhid u5_; omega))) hz ht hc hi hn5  (by first | exact True.intro | with_reducible assumption | exact unhid (by with_reducible assumption) | rfl | (first | omega | (have z_ := unhid u5_; omega)) | trivial) (by first | exact True.intro | with_reducible assumption | exact unhid (by with_reducible assumption) | rfl | (first | omega | (have z_ := unhid u5_; omega)) | trivial) (by first | exact True.intro | with_reducible assumption | exact unhid (by with_reducible assumption) | rfl | (first | omega | (have z_ := unhid u5_; omega)) | trivial) (by first | exact True.intro | with_reducible assumption | exact unhid (by with_reducible assumption) | rfl | (first | omega | (have z_ := unhid u5_; omega)) | trivial)) ?_
  rintro _ _ ⟨dt6, rfl, hI7, hF8, h5⟩
  refine ⟨rfl, ?_⟩
  have hF9 : Fr [79, 84] dt dt6 := Fr_tr hF hF8 (by decide)
  rcases h5 with ⟨rfl, h5⟩ | ⟨rfl, h5⟩
  · skip
    obtain ⟨h5_0, h5_1, h5_2, h5_3, h5_4⟩ := h5
    have w10 : dt6 79 2 = dt 79 2 := h5_1
    have w11 : dt6 79 9 = dt 79 9 := h5_2
    have w12 : dt6 79 10 = dt 79 10 := h5_3
    have w13 : dt6 79 12 = dt 79 12 := h5_4
    have fl14 := RSX_0 h5_0 rfl
    have fe15 : (gB_ (KF 1 b n) (VF b n) j) i = (gEv (KF 1 b n) (VF b n) j) i := (rfl : (gB_ (KF 1 b n) (VF b n) j) i = (gB_ (KF 1 b n) (VF b n) j) i).trans ((show (gB_ (KF 1 b n) (VF b n) j) i = gB ((gEv (KF 1 b n) (VF b n) j) i) (gO (KF 1 b n) (gC (KF 1 b n) (VF b n) j) 600) by exact gB_NO' hz (by (first | omega | (have z_ := unhid u5_; omega)))).trans (gB_no fl14.1))
    clear h5_1 h5_2 h5_3 h5_4
    refine go_retq PM168 (k := 2) (r := some (.inl 0)) (w1 := (SH, dt6)) rfl ?_
    exact ⟨dt6, rfl, hI7, hF9, (Or.inl ⟨rfl, ⟨by exact RSX_f fe15 fl14 (by first | rfl | with_reducible assumption | exact unhid (by with_reducible assumption) | (first | omega | (have z_ := unhid u5_; omega))) (by first | rfl | with_reducible assumption | exact unhid (by with_reducible assumption) | (first | omega | (have z_ := unhid u5_; omega))), by first | exact True.intro | with_reducible assumption | exact unhid (by with_reducible assumption) | rfl | (first | omega | (have z_ := unhid u5_; omega)) | trivial, by first | exact True.intro | with_reducible assumption | exact unhid (by with_reducible assumption) | rfl | (first | omega | (have z_ := unhid u5_; omega)) | trivial, by first | exact True.intro | with_reducible assumption | exact unhid (by with_reducible assumption) | rfl | (first | omega | (have z_ := unhid u5_; omega)) | trivial, by first | exact True.intro | with_reducible assumption | exact unhid (by with_reducible assumption) | rfl | (first | omega | (have z_ := unhid u5_; omega)) | trivial⟩⟩)⟩
  · skip
    obtain ⟨h5_0, h5_1, h5_2, h5_3, h5_4, h5_5, h5_6, h5_7, h5_8, h5_9⟩ := h5
    have w16 : dt6 79 2 = dt 79 2 := h5_4
    have w17 : dt6 79 9 = dt 79 9 := h5_5
    have w18 : dt6 79 10 = dt 79 10 := h5_6
    have w19 : dt6 79 12 = dt 79 12 := h5_7
    have w20 : dt6 79 17 = dt 79 17 := h5_8
    have w21 : dt6 79 20 = dt 79 20 := h5_9
    obtain ⟨j22, ej23, hc24⟩ := RSX_1 h5_0 (by decide)
    have hp25 : (gB_ (KF 1 b n) (VF b n) j) i = (gO (KF 1 b n) (gC (KF 1 b n) (VF b n) j) 600) j22 := (rfl : (gB_ (KF 1 b n) (VF b n) j) i = (gB_ (KF 1 b n) (VF b n) j) i).trans ((show (gB_ (KF 1 b n) (VF b n) j) i = gB ((gEv (KF 1 b n) (VF b n) j) i) (gO (KF 1 b n) (gC (KF 1 b n) (VF b n) j) 600) by exact gB_NO' hz (by (have z_ := unhid u5_; omega))).trans (by rw [ej23]; exact gB_0))
    have hi26 : j22 ≤ t := by have z := gEv_M (K := (KF 1 b n)) (V := (VF b n)) (d := j) (i := i) hz; rw [ej23] at z; have y := z rfl; simp only at y; (first | omega | (have z_ := unhid u5_; omega))
    clear cr0 cb0 cd0 cv0 ck0
    have cr27 := hid (CUR_R hc24 (.inr rfl))
    have cd28 := CUR_d (hc24)
    have cb28 := hid (CUR_b hc24)
    have cv29 := hid (CUR_v hc24)
    have ck30 := hid (KZ_lt (i := j22) hz)
    have c131 := (hc24).1
    have ci32 := hi26
    clear h5_4 h5_5 h5_6 h5_7 h5_8 h5_9
    refine go_toq PM168 (k := 1) (pc' := 9) (L' := [some (.inr (.inr (some 79)))]) (st' := []) (w' := (SH, dt6)) rfl ?_
    have loop116 : ∀ (k_ : Nat) (dt103 : Nat → Nat → Int) (hI104 : InvC dt103) (hF105 : Fr [79, 84] dt dt103) (i106 : ∃ q : Nat, (gB_ (KF 1 b n) (VF b n) j) i = (gO (KF 1 b n) (gC (KF 1 b n) (VF b n) j) 600) q ∧ CUR 1 b n dt103 q ∧ q ≤ t) (i107 : dt 79 15 + dt103 79 11 ≤ dt103 79 15 + dt 79 11) (i108 : dt 79 11 + 1 ≤ dt103 79 11) (i109 : dt103 79 15 ≤ 500) (i110 : dt103 79 2 = dt 79 2) (i111 : dt103 79 9 = dt 79 9) (i112 : dt103 79 10 = dt 79 10) (i113 : dt103 79 12 = dt 79 12) (i114 : dt103 79 17 = dt 79 17) (i115 : dt103 79 20 = dt 79 20), (502 - dt103 79 15).toNat < k_ → GO (am_XX L xs sio) (d + 12) 168 9 [some (.inr (.inr (some 79)))] [] (SH, dt103) (fun r w2 => ∃ dt2 : Nat → Nat → Int, w2 = (SH, dt2) ∧ InvC dt2 ∧ Fr [79, 84] dt dt2 ∧ ((r = some (.inl 0) ∧ (RSX 1 b n i dt2 0 ((gB_ (KF 1 b n) (VF b n) j) i)) ∧ (dt2 79 2 = dt 79 2) ∧ (dt2 79 9 = dt 79 9) ∧ (dt2 79 10 = dt 79 10) ∧ (dt2 79 12 = dt 79 12)) ∨ (r = some (.inl 1) ∧ (RSX 1 b n i dt2 1 ((gB_ (KF 1 b n) (VF b n) j) i)) ∧ (dt 79 15 + dt2 79 11 ≤ dt2 79 15 + dt 79 11) ∧ (dt 79 11 + 1 ≤ dt2 79 11) ∧ (dt2 79 15 ≤ 500) ∧ (dt2 79 2 = dt 79 2) ∧ (dt2 79 9 = dt 79 9) ∧ (dt2 79 10 = dt 79 10) ∧ (dt2 79 12 = dt 79 12) ∧ (dt2 79 17 = dt 79 17) ∧ (dt2 79 20 = dt 79 20)))) := by
      intro k_
      induction k_ with
      | zero => intro dt103 hI104 hF105 i106 i107 i108 i109 i110 i111 i112 i113 i114 i115 hm; exact absurd hm (Nat.not_lt_zero _)
      | succ k_ ih_loop116 =>
        intro dt103 hI104 hF105 i106 i107 i108 i109 i110 i111 i112 i113 i114 i115 hm
        clear cr27 cb28 cd28 cv29 ck30
        obtain ⟨gq, hpq, hcq, hiq⟩ := i106
        have crq := CUR_R hcq (.inr rfl)
        have cbq := CUR_b hcq
        have cvq := CUR_v hcq
        have ckq := KZ_lt (i := gq) hz
        have c1q := hcq.1
        have r117 : (-2147483648) ≤ dt103 79 14 ∧ dt103 79 14 ≤ 2147483647 := InvC_get hI104 79 14 rfl rfl
        refine go_ifq PM168 (k := 3) (p1 := 40) (p2 := 17) (L' := [some (.inr (.inr (some 79)))]) (st' := []) (w' := (SH, dt103)) rfl (c_ne (a := dt103 79 14) (b := 4) (by first | exact bnd r117 (by decide) (by decide) | exact ⟨by omega, by omega⟩) ⟨by decide, by decide⟩) (fun c118 => ?_) (fun c118 => ?_)
        · skip
          replace c118 := hid c118
          refine go_retq PM168 (k := 1) (r := some (.inl 1)) (w1 := (SH, dt103)) rfl ?_
          exact ⟨dt103, rfl, hI104, hF105, (Or.inr ⟨rfl, ⟨by exact RSX_ok (hpq.trans (by show gO _ _ 600 gq = _; rw [gO_u (gC_M hz _) (by (first | omega | (have z0_ := unhid c118; omega))) (by (first | omega | (have z0_ := unhid c118; omega))), if_neg (by (first | omega | (have z0_ := unhid c118; omega)))])) hcq, by first | exact True.intro | with_reducible assumption | exact unhid (by with_reducible assumption) | rfl | (first | omega | (have z0_ := unhid c118; omega)) | trivial, by first | exact True.intro | with_reducible assumption | exact unhid (by with_reducible assumption) | rfl | (first | omega | (have z0_ := unhid c118; omega)) | trivial, by exact (InvC_get (by assumption) 79 15 rfl rfl).2, by first | exact True.intro | with_reducible assumption | exact unhid (by with_reducible assumption) | rfl | (first | omega | (have z0_ := unhid c118; omega)) | trivial, by first | exact True.intro | with_reducible assumption | exact unhid (by with_reducible assumption) | rfl | (first | omega | (have z0_ := unhid c118; omega)) | trivial, by first | exact True.intro | with_reducible assumption | exact unhid (by with_reducible assumption) | rfl | (first | omega | (have z0_ := unhid c118; omega)) | trivial, by first | exact True.intro | with_reducible assumption | exact unhid (by with_reducible assumption) | rfl | (first | omega | (have z0_ := unhid c118; omega)) | trivial, by first | exact True.intro | with_reducible assumption | exact unhid (by with_reducible assumption) | rfl | (first | omega | (have z0_ := unhid c118; omega)) | trivial, by first | exact True.intro | with_reducible assumption | exact unhid (by with_reducible assumption) | rfl | (first | omega | (have z0_ := unhid c118; omega)) | trivial⟩⟩)⟩
        · skip
          refine go_toq PM168 (k := 1) (pc' := 18) (L' := [some (.inr (.inr (some 79)))]) (st' := [.inr (.inr (some 79))]) (w' := (SH, dt103)) rfl ?_
          refine go_callq PM168 PM159 (Q' := _) rfl rfl rfl rfl (sp_X6_next0_p1 L xs sio (d + 5) dt103 hI104   (by first | exact True.intro | with_reducible assumption | rfl | omega | trivial) (by first | exact True.intro | with_reducible assumption | rfl | omega | trivial)) ?_
          rintro _ _ ⟨dt120, rfl, hI121, hF122, h119⟩
          refine ⟨rfl, ?_⟩
          have hF123 : Fr [79, 84] dt dt120 := Fr_tr hF105 hF122 (by decide)
          rcases h119 with ⟨rfl, h119⟩
          obtain ⟨h119_0, h119_1, h119_2, h119_3, h119_4, h119_5, h119_6, h119_7, h119_8⟩ := h119
          have w124 : dt120 79 2 = dt103 79 2 := h119_2
          have w125 : dt120 79 9 = dt103 79 9 := h119_3
          have w126 : dt120 79 10 = dt103 79 10 := h119_4
          have w127 : dt120 79 11 = dt103 79 11 := h119_5
          have w128 : dt120 79 12 = dt103 79 12 := h119_6
          have w129 : dt120 79 17 = dt103 79 17 := h119_7
          have w130 : dt120 79 20 = dt103 79 20 := h119_8
          have hq131 := h119_0
          rw [show dt103 85 = dt 85 from funext (hF105 85 (by decide)), show dt103 79 12 = dt 79 12 by first | with_reducible assumption | omega, hbb, show (dt 79 12).toNat = n from (congrArg Int.toNat hnn).trans (Int.toNat_natCast n)] at hq131
          have hc132 : CUR 1 b n dt120 (gq + 1) := CUR_n hcq hq131
          have hi133 : gq + 1 ≤ t := by omega
          have av134 : dt103 79 15 + 1 ≤ dt103 79 13 := by omega
          have hp135 : (gB_ (KF 1 b n) (VF b n) j) i = (fun i => gB (gEv (KF 1 b n) (VF b n) j i) (gO (KF 1 b n) (gC (KF 1 b n) (VF b n) j) 600)) (gq + 1) := hpq.trans (by show gO _ _ 600 gq = _; rw [gO_u (gC_M hz _) (by omega) (by omega)]; first | (rw [if_pos (by omega)]; done) | (rw [if_pos (by omega)]; rfl))
          clear crq cbq cvq ckq
          have cr136 := hid (CUR_R hc132 (.inr rfl))
          have cd137 := CUR_d (hc132)
          have cb137 := hid (CUR_b hc132)
          have cv138 := hid (CUR_v hc132)
          have ck139 := hid (KZ_lt (i := (gq + 1)) hz)
          have c1140 := (hc132).1
          have ci141 := hi133
          clear h119_2 h119_3 h119_4 h119_5 h119_6 h119_7 h119_8
          refine go_toq PM168 (k := 1) (pc' := 22) (L' := [some (.inr (.inr (some 79)))]) (st' := [.inr (.inr (some 79))]) (w' := (SH, dt120)) rfl ?_
          have u6_ := hid (And.intro (unhid cr136) (And.intro (unhid cb137) (And.intro (unhid cv138) (unhid ck139))))
          refine go_callq PM168 PM169 (Q' := _) rfl rfl rfl rfl (IH_X6_every L xs sio (d + 0) dt120 hI121 b n t (gq + 1) (by first | exact hbb | (rw [show dt120 85 = dt 85 from funext (hF123 85 (by decide)), show dt120 79 12 = dt 79 12 by first | with_reducible assumption | exact unhid (by with_reducible assumption) | (first | omega | (have z_ := unhid u6_; omega))]; exact hbb)) (by first | with_reducible assumption | exact unhid (by with_reducible assumption) | exact Eq.trans (by with_reducible assumption) hnn | (first | omega | (have z_ := unhid u6_; omega))) hz ht hc132 hi133 hn5  (by first | exact True.intro | with_reducible assumption | exact unhid (by with_reducible assumption) | rfl | (first | omega | (have z_ := unhid u6_; omega)) | trivial) (by first | exact True.intro | with_reducible assumption | exact unhid (by with_reducible assumption) | rfl | (first | omega | (have z_ := unhid u6_; omega)) | trivial) (by first | exact True.intro | with_reducible assumption | exact unhid (by with_reducible assumption) | rfl | (first | omega | (have z_ := unhid u6_; omega)) | trivial) (by first | exact True.intro | with_reducible assumption | exact unhid (by with_reducible assumption) | rfl | (first | omega | (have z_ := unhid u6_; omega)) | trivial)) ?_
          rintro _ _ ⟨dt143, rfl, hI144, hF145, h142⟩
          refine ⟨rfl, ?_⟩
          have hF146 : Fr [79, 84] dt dt143 := Fr_tr hF123 hF145 (by decide)
          rcases h142 with ⟨rfl, h142⟩ | ⟨rfl, h142⟩
          · skip
            obtain ⟨h142_0, h142_1, h142_2, h142_3, h142_4⟩ := h142
            have w147 : dt143 79 2 = dt103 79 2 := h142_1.trans w124
            have w148 : dt143 79 9 = dt103 79 9 := h142_2.trans w125
            have w149 : dt143 79 10 = dt103 79 10 := h142_3.trans w126
            have w150 : dt143 79 12 = dt103 79 12 := h142_4.trans w128
            have fl151 := RSX_0 h142_0 rfl
            have fe152 : (gB_ (KF 1 b n) (VF b n) j) i = (gEv (KF 1 b n) (VF b n) j) (gq + 1) := hp135.trans ((show (fun i => gB (gEv (KF 1 b n) (VF b n) j i) (gO (KF 1 b n) (gC (KF 1 b n) (VF b n) j) 600)) (gq + 1) = gB ((gEv (KF 1 b n) (VF b n) j) (gq + 1)) (gO (KF 1 b n) (gC (KF 1 b n) (VF b n) j) 600) by rfl).trans (gB_no fl151.1))
            clear h142_1 w124 h142_2 w125 h142_3 h142_4 w128
            refine go_retq PM168 (k := 2) (r := some (.inl 0)) (w1 := (SH, dt143)) rfl ?_
            exact ⟨dt143, rfl, hI144, hF146, (Or.inl ⟨rfl, ⟨by exact RSX_f fe152 fl151 (by first | rfl | with_reducible assumption | exact unhid (by with_reducible assumption) | (first | omega | (have z_ := unhid u6_; omega))) (by first | rfl | with_reducible assumption | exact unhid (by with_reducible assumption) | (first | omega | (have z_ := unhid u6_; omega))), by first | exact True.intro | with_reducible assumption | exact unhid (by with_reducible assumption) | rfl | (first | omega | (have z_ := unhid u6_; omega)) | trivial, by first | exact True.intro | with_reducible assumption | exact unhid (by with_reducible assumption) | rfl | (first | omega | (have z_ := unhid u6_; omega)) | trivial, by first | exact True.intro | with_reducible assumption | exact unhid (by with_reducible assumption) | rfl | (first | omega | (have z_ := unhid u6_; omega)) | trivial, by first | exact True.intro | with_reducible assumption | exact unhid (by with_reducible assumption) | rfl | (first | omega | (have z_ := unhid u6_; omega)) | trivial⟩⟩)⟩
          · skip
            obtain ⟨h142_0, h142_1, h142_2, h142_3, h142_4, h142_5, h142_6, h142_7, h142_8, h142_9⟩ := h142
            have w153 : dt143 79 2 = dt103 79 2 := h142_4.trans w124
            have w154 : dt143 79 9 = dt103 79 9 := h142_5.trans w125
            have w155 : dt143 79 10 = dt103 79 10 := h142_6.trans w126
            have w156 : dt143 79 12 = dt103 79 12 := h142_7.trans w128
            have w157 : dt143 79 17 = dt103 79 17 := h142_8.trans w129
            have w158 : dt143 79 20 = dt103 79 20 := h142_9.trans w130
            obtain ⟨j159, ej160, hc161⟩ := RSX_1 h142_0 (by decide)
            have hp162 : (gB_ (KF 1 b n) (VF b n) j) i = (gO (KF 1 b n) (gC (KF 1 b n) (VF b n) j) 600) j159 := hp135.trans ((show (fun i => gB (gEv (KF 1 b n) (VF b n) j i) (gO (KF 1 b n) (gC (KF 1 b n) (VF b n) j) 600)) (gq + 1) = gB ((gEv (KF 1 b n) (VF b n) j) (gq + 1)) (gO (KF 1 b n) (gC (KF 1 b n) (VF b n) j) 600) by rfl).trans (by rw [ej160]; exact gB_0))
            have hi163 : j159 ≤ t := by have z := gEv_M (K := (KF 1 b n)) (V := (VF b n)) (d := j) (i := (gq + 1)) hz; rw [ej160] at z; have y := z rfl; simp only at y; (first | omega | (have z_ := unhid u6_; omega))
            clear cr136 cb137 cd137 cv138 ck139
            have cr164 := hid (CUR_R hc161 (.inr rfl))
            have cd165 := CUR_d (hc161)
            have cb165 := hid (CUR_b hc161)
            have cv166 := hid (CUR_v hc161)
            have ck167 := hid (KZ_lt (i := j159) hz)
            have c1168 := (hc161).1
            have ci169 := hi163
            clear h142_4 w124 h142_5 w125 h142_6 h142_7 w128 h142_8 w129 h142_9 w130
            refine go_toq PM168 (k := 4) (pc' := 34) (L' := [some (.inr (.inr (some 79)))]) (st' := [.inl 0, .inl 16, .inr (.inr (some 79))]) (w' := (SH, dt143)) rfl ?_
            have u7_ := hid (And.intro (unhid cr164) (And.intro (unhid cb165) (And.intro (unhid cv166) (unhid ck167))))
            refine go_callq PM168 PM163 (Q' := _) rfl rfl rfl rfl (sp_X6_lay_g L xs sio (d + 11) dt143 hI144  16 ⟨by decide, by decide⟩ 0 ⟨by decide, by decide⟩ (by first | exact True.intro | with_reducible assumption | exact unhid (by with_reducible assumption) | rfl | (first | omega | (have z_ := unhid u7_; omega)) | trivial)) ?_
            rintro _ _ ⟨dt171, rfl, hI172, hF173, h170⟩
            refine ⟨rfl, ?_⟩
            have hF174 : Fr [79, 84] dt dt171 := Fr_tr hF146 hF173 (by decide)
            rcases h170 with ⟨rfl, h170⟩
            obtain ⟨h170_0, h170_1, h170_2, h170_3, h170_4, h170_5, h170_6, h170_7, h170_8, h170_9, h170_10⟩ := h170
            have w175 : dt171 79 2 = dt103 79 2 := h170_1.trans w153
            have w176 : dt171 79 9 = dt103 79 9 := h170_2.trans w154
            have w177 : dt171 79 10 = dt103 79 10 := h170_3.trans w155
            have w178 : dt171 79 12 = dt103 79 12 := h170_4.trans w156
            have w179 : dt171 79 13 = dt143 79 13 := h170_5
            have w180 : dt171 79 14 = dt143 79 14 := h170_6
            have w181 : dt171 79 15 = dt143 79 15 := h170_7
            have w182 : dt171 79 16 = dt143 79 16 := h170_8
            have w183 : dt171 79 17 = dt103 79 17 := h170_9.trans w157
            have w184 : dt171 79 20 = dt103 79 20 := h170_10.trans w158
            have hc185 : CUR 1 b n dt171 j159 := CUR_sm hc161 (by first | with_reducible assumption | exact unhid (by with_reducible assumption) | rfl | (first | omega | (have z_ := unhid u7_; omega))) (by first | with_reducible assumption | exact unhid (by with_reducible assumption) | rfl | (first | omega | (have z_ := unhid u7_; omega))) (by first | with_reducible assumption | exact unhid (by with_reducible assumption) | rfl | (first | omega | (have z_ := unhid u7_; omega))) (by first | with_reducible assumption | exact unhid (by with_reducible assumption) | rfl | (first | omega | (have z_ := unhid u7_; omega)))
            clear h170_1 w153 h170_2 w154 h170_3 h170_4 w156 h170_5 h170_6 h170_7 h170_8 h170_9 w157 h170_10 w158
            refine go_toq PM168 (k := 1) (pc' := 9) (L' := [some (.inr (.inr (some 79)))]) (st' := []) (w' := (SH, dt171)) rfl ?_
            exact GO.le (ih_loop116 dt171 hI172 hF174 (by exact ⟨_, hp162, hc185, hi163⟩) (by first | with_reducible assumption | exact unhid (by with_reducible assumption) | (first | omega | (have z_ := unhid u7_; omega)) | exact ⟨_, hp162, hc185, hi163⟩) (by first | with_reducible assumption | exact unhid (by with_reducible assumption) | (first | omega | (have z_ := unhid u7_; omega)) | exact ⟨_, hp162, hc185, hi163⟩) (by first | with_reducible assumption | exact unhid (by with_reducible assumption) | (first | omega | (have z_ := unhid u7_; omega)) | exact ⟨_, hp162, hc185, hi163⟩) (by first | with_reducible assumption | exact unhid (by with_reducible assumption) | (first | omega | (have z_ := unhid u7_; omega)) | exact ⟨_, hp162, hc185, hi163⟩) (by first | with_reducible assumption | exact unhid (by with_reducible assumption) | (first | omega | (have z_ := unhid u7_; omega)) | exact ⟨_, hp162, hc185, hi163⟩) (by first | with_reducible assumption | exact unhid (by with_reducible assumption) | (first | omega | (have z_ := unhid u7_; omega)) | exact ⟨_, hp162, hc185, hi163⟩) (by first | with_reducible assumption | exact unhid (by with_reducible assumption) | (first | omega | (have z_ := unhid u7_; omega)) | exact ⟨_, hp162, hc185, hi163⟩) (by first | with_reducible assumption | exact unhid (by with_reducible assumption) | (first | omega | (have z_ := unhid u7_; omega)) | exact ⟨_, hp162, hc185, hi163⟩) (by first | with_reducible assumption | exact unhid (by with_reducible assumption) | (first | omega | (have z_ := unhid u7_; omega)) | exact ⟨_, hp162, hc185, hi163⟩) (by (first | omega | (have z_ := unhid u7_; omega)))) ⟨.inl rfl, trivial⟩
    have u8_ := hid (And.intro (unhid cr27) (And.intro (unhid cb28) (And.intro (unhid cv29) (unhid ck30))))
    exact GO.le (loop116 _ dt6 hI7 hF9 (by exact ⟨_, hp25, hc24, hi26⟩) (by first | with_reducible assumption | exact unhid (by with_reducible assumption) | (first | omega | (have z_ := unhid u8_; omega)) | exact ⟨_, hp25, hc24, hi26⟩) (by first | with_reducible assumption | exact unhid (by with_reducible assumption) | (first | omega | (have z_ := unhid u8_; omega)) | exact ⟨_, hp25, hc24, hi26⟩) (by first | with_reducible assumption | exact unhid (by with_reducible assumption) | (first | omega | (have z_ := unhid u8_; omega)) | exact ⟨_, hp25, hc24, hi26⟩) (by first | with_reducible assumption | exact unhid (by with_reducible assumption) | (first | omega | (have z_ := unhid u8_; omega)) | exact ⟨_, hp25, hc24, hi26⟩) (by first | with_reducible assumption | exact unhid (by with_reducible assumption) | (first | omega | (have z_ := unhid u8_; omega)) | exact ⟨_, hp25, hc24, hi26⟩) (by first | with_reducible assumption | exact unhid (by with_reducible assumption) | (first | omega | (have z_ := unhid u8_; omega)) | exact ⟨_, hp25, hc24, hi26⟩) (by first | with_reducible assumption | exact unhid (by with_reducible assumption) | (first | omega | (have z_ := unhid u8_; omega)) | exact ⟨_, hp25, hc24, hi26⟩) (by first | with_reducible assumption | exact unhid (by with_reducible assumption) | (first | omega | (have z_ := unhid u8_; omega)) | exact ⟨_, hp25, hc24, hi26⟩) (by first | with_reducible assumption | exact unhid (by with_reducible assumption) | (first | omega | (have z_ := unhid u8_; omega)) | exact ⟨_, hp25, hc24, hi26⟩) (Nat.lt_succ_self _)) ⟨.inl rfl, trivial⟩
set_option maxHeartbeats 1500000 in
set_option maxRecDepth 20000 in
theorem lv_X6_one_g (L : Nat) (xs : Nat → Int32) (sio : Option Nat) (d : Nat) (dt : Nat → Nat → Int) (hI : InvC dt) (b : Nat → Int) (n t i : Nat) (hbb : mB (dt 85) (dt 79 12) = b) (hnn : dt 79 12 = (n : Int)) (hz : KZ (KF 1 b n) t) (ht : t ≤ 500) (hc : CUR 1 b n dt i) (hi : i ≤ t) (hn5 : n ≤ 500) (j : Nat) (IH_X6_one : ∀ (L : Nat) (xs : Nat → Int32) (sio : Option Nat) (d : Nat) (dt : Nat → Nat → Int) (hI : InvC dt) (b : Nat → Int) (n t i : Nat) (hbb : mB (dt 85) (dt 79 12) = b) (hnn : dt 79 12 = (n : Int)) (hz : KZ (KF 1 b n) t) (ht : t ≤ 500) (hc : CUR 1 b n dt i) (hi : i ≤ t) (hn5 : n ≤ 500) (h_p0 : dt 79 9 = 1) (h_p1 : dt 79 11 ≤ dt 79 15) (h_p2 : dt 79 20 + ((j : Nat) : Int) = 8) (h_p3 : 3 * j ≤ d), GO (am_XX L xs sio) (d + 10) 170 0 [some (.inr (.inr (some 79))), none] [] (SH, dt) (fun r w2 => ∃ dt2 : Nat → Nat → Int, w2 = (SH, dt2) ∧ InvC dt2 ∧ Fr [79, 84] dt dt2 ∧ ((r = some (.inl 0) ∧ (RSX 1 b n i dt2 0 ((gC (KF 1 b n) (VF b n) j) i)) ∧ (dt2 79 2 = dt 79 2) ∧ (dt2 79 9 = dt 79 9) ∧ (dt2 79 10 = dt 79 10) ∧ (dt2 79 12 = dt 79 12)) ∨ (r = some (.inl 1) ∧ (RSX 1 b n i dt2 1 ((gC (KF 1 b n) (VF b n) j) i)) ∧ (dt 79 15 + dt2 79 11 ≤ dt2 79 15 + dt 79 11) ∧ (dt 79 11 + 1 ≤ dt2 79 11) ∧ (dt2 79 15 ≤ 500) ∧ (dt2 79 2 = dt 79 2) ∧ (dt2 79 9 = dt 79 9) ∧ (dt2 79 10 = dt 79 10) ∧ (dt2 79 12 = dt 79 12) ∧ (dt2 79 17 = dt 79 17) ∧ (dt2 79 20 = dt 79 20))))) (IH_X6_every : ∀ (L : Nat) (xs : Nat → Int32) (sio : Option Nat) (d : Nat) (dt : Nat → Nat → Int) (hI : InvC dt) (b : Nat → Int) (n t i : Nat) (hbb : mB (dt 85) (dt 79 12) = b) (hnn : dt 79 12 = (n : Int)) (hz : KZ (KF 1 b n) t) (ht : t ≤ 500) (hc : CUR 1 b n dt i) (hi : i ≤ t) (hn5 : n ≤ 500) (h_p0 : dt 79 9 = 1) (h_p1 : dt 79 11 ≤ dt 79 15) (h_p2 : dt 79 20 + ((j : Nat) : Int) = 8) (h_p3 : 3 * j ≤ d), GO (am_XX L xs sio) (d + 11) 169 0 [some (.inr (.inr (some 79)))] [] (SH, dt) (fun r w2 => ∃ dt2 : Nat → Nat → Int, w2 = (SH, dt2) ∧ InvC dt2 ∧ Fr [79, 84] dt dt2 ∧ ((r = some (.inl 0) ∧ (RSX 1 b n i dt2 0 ((gEv (KF 1 b n) (VF b n) j) i)) ∧ (dt2 79 2 = dt 79 2) ∧ (dt2 79 9 = dt 79 9) ∧ (dt2 79 10 = dt 79 10) ∧ (dt2 79 12 = dt 79 12)) ∨ (r = some (.inl 1) ∧ (RSX 1 b n i dt2 1 ((gEv (KF 1 b n) (VF b n) j) i)) ∧ (dt 79 15 + dt2 79 11 ≤ dt2 79 15 + dt 79 11) ∧ (dt 79 11 + 1 ≤ dt2 79 11) ∧ (dt2 79 15 ≤ 500) ∧ (dt2 79 2 = dt 79 2) ∧ (dt2 79 9 = dt 79 9) ∧ (dt2 79 10 = dt 79 10) ∧ (dt2 79 12 = dt 79 12) ∧ (dt2 79 17 = dt 79 17) ∧ (dt2 79 20 = dt 79 20))))) (IH_X6_any : ∀ (L : Nat) (xs : Nat → Int32) (sio : Option Nat) (d : Nat) (dt : Nat → Nat → Int) (hI : InvC dt) (b : Nat → Int) (n t i : Nat) (hbb : mB (dt 85) (dt 79 12) = b) (hnn : dt 79 12 = (n : Int)) (hz : KZ (KF 1 b n) t) (ht : t ≤ 500) (hc : CUR 1 b n dt i) (hi : i ≤ t) (hn5 : n ≤ 500) (h_p0 : dt 79 9 = 1) (h_p1 : dt 79 11 ≤ dt 79 15) (h_p2 : dt 79 20 + ((j : Nat) : Int) = 8) (h_p3 : 3 * j ≤ d), GO (am_XX L xs sio) (d + 12) 168 0 [some (.inr (.inr (some 79)))] [] (SH, dt) (fun r w2 => ∃ dt2 : Nat → Nat → Int, w2 = (SH, dt2) ∧ InvC dt2 ∧ Fr [79, 84] dt dt2 ∧ ((r = some (.inl 0) ∧ (RSX 1 b n i dt2 0 ((gB_ (KF 1 b n) (VF b n) j) i)) ∧ (dt2 79 2 = dt 79 2) ∧ (dt2 79 9 = dt 79 9) ∧ (dt2 79 10 = dt 79 10) ∧ (dt2 79 12 = dt 79 12)) ∨ (r = some (.inl 1) ∧ (RSX 1 b n i dt2 1 ((gB_ (KF 1 b n) (VF b n) j) i)) ∧ (dt 79 15 + dt2 79 11 ≤ dt2 79 15 + dt 79 11) ∧ (dt 79 11 + 1 ≤ dt2 79 11) ∧ (dt2 79 15 ≤ 500) ∧ (dt2 79 2 = dt 79 2) ∧ (dt2 79 9 = dt 79 9) ∧ (dt2 79 10 = dt 79 10) ∧ (dt2 79 12 = dt 79 12) ∧ (dt2 79 17 = dt 79 17) ∧ (dt2 79 20 = dt 79 20)))))   (h_p0 : dt 79 9 = 1) (h_p1 : dt 79 11 ≤ dt 79 15) (h_p2 : dt 79 20 + (((j + 1) : Nat) : Int) = 8) (h_p3 : 3 * j ≤ d) : GO (am_XX L xs sio) (d + 13) 170 0 [some (.inr (.inr (some 79))), none] [] (SH, dt) (fun r w2 => ∃ dt2 : Nat → Nat → Int, w2 = (SH, dt2) ∧ InvC dt2 ∧ Fr [79, 84] dt dt2 ∧ ((r = some (.inl 0) ∧ (RSX 1 b n i dt2 0 ((gC (KF 1 b n) (VF b n) (j + 1)) i)) ∧ (dt2 79 2 = dt 79 2) ∧ (dt2 79 9 = dt 79 9) ∧ (dt2 79 10 = dt 79 10) ∧ (dt2 79 12 = dt 79 12)) ∨ (r = some (.inl 1) ∧ (RSX 1 b n i dt2 1 ((gC (KF 1 b n) (VF b n) (j + 1)) i)) ∧ (dt 79 15 + dt2 79 11 ≤ dt2 79 15 + dt 79 11) ∧ (dt 79 11 + 1 ≤ dt2 79 11) ∧ (dt2 79 15 ≤ 500) ∧ (dt2 79 2 = dt 79 2) ∧ (dt2 79 9 = dt 79 9) ∧ (dt2 79 10 = dt 79 10) ∧ (dt2 79 12 = dt 79 12) ∧ (dt2 79 17 = dt 79 17) ∧ (dt2 79 20 = dt 79 20)))) := by
  have hF : Fr [79, 84] dt dt := Fr_refl
  have r1 : 0 ≤ dt 79 15 ∧ dt 79 15 ≤ 500 := InvC_get hI 79 15 rfl rfl
  have r2 : 0 ≤ dt 79 11 ∧ dt 79 11 ≤ 510 := InvC_get hI 79 11 rfl rfl
  have r3 : 0 ≤ dt 79 10 ∧ dt 79 10 ≤ 24 := InvC_get hI 79 10 rfl rfl
  have r4 : 0 ≤ dt 79 20 ∧ dt 79 20 ≤ 8 := InvC_get hI 79 20 rfl rfl
  have cr0 := hid (CUR_R hc (.inr rfl))
  have cd0 := CUR_d (hc)
  have cb0 := hid (CUR_b hc)
  have cv0 := hid (CUR_v hc)
  have ck0 := hid (KZ_lt (i := i) hz)
  have c10 := hc.1
  have r5 : (-2147483648) ≤ dt 79 14 ∧ dt 79 14 ≤ 2147483647 := InvC_get hI 79 14 rfl rfl
  have u9_ := hid (And.intro (unhid cr0) (And.intro (unhid cb0) (And.intro (unhid cv0) (unhid ck0))))
  refine go_ifq PM170 (k := 3) (p1 := 44) (p2 := 9) (L' := [some (.inr (.inr (some 79))), none]) (st' := []) (w' := (SH, dt)) rfl (c_ne (a := dt 79 14) (b := 6) (by first | exact bnd r5 (by decide) (by decide) | exact ⟨by (first | omega | (have z_ := unhid u9_; omega)), by (first | omega | (have z_ := unhid u9_; omega))⟩) ⟨by decide, by decide⟩) (fun c6 => ?_) (fun c6 => ?_)
  · skip
    replace c6 := hid c6
    have u10_ := hid (And.intro (unhid cr0) (And.intro (unhid cb0) (And.intro (unhid cv0) (And.intro (unhid ck0) (unhid c6)))))
    refine go_ifq PM170 (k := 3) (p1 := 92) (p2 := 54) (L' := [some (.inr (.inr (some 79))), none]) (st' := []) (w' := (SH, dt)) rfl (c_ne (a := dt 79 14) (b := 140) (by first | exact bnd r5 (by decide) (by decide) | exact ⟨by (first | omega | (have z_ := unhid u10_; omega)), by (first | omega | (have z_ := unhid u10_; omega))⟩) ⟨by decide, by decide⟩) (fun c7 => ?_) (fun c7 => ?_)
    · skip
      replace c7 := hid c7
      refine go_toq PM170 (k := 1) (pc' := 93) (L' := [some (.inr (.inr (some 79))), none]) (st' := [.inr (.inr (some 79))]) (w' := (SH, dt)) rfl ?_
      have u11_ := hid (And.intro (unhid cr0) (And.intro (unhid cb0) (And.intro (unhid cv0) (And.intro (unhid ck0) (And.intro (unhid c6) (unhid c7))))))
      refine go_callq PM170 PM165 (Q' := _) rfl rfl rfl rfl (sp_X6_sumUp_g L xs sio (d + 3) dt hI b n t i (by first | exact hbb | (rw [show dt 85 = dt 85 from funext (hF 85 (by decide)), show dt 79 12 = dt 79 12 by first | with_reducible assumption | exact unhid (by with_reducible assumption) | (first | omega | (have z_ := unhid u11_; omega))]; exact hbb)) (by first | with_reducible assumption | exact unhid (by with_reducible assumption) | exact Eq.trans (by with_reducible assumption) hnn | (first | omega | (have z_ := unhid u11_; omega))) hz ht hc hi hn5  (by first | exact True.intro | with_reducible assumption | exact unhid (by with_reducible assumption) | rfl | (first | omega | (have z_ := unhid u11_; omega)) | trivial) (by first | exact True.intro | with_reducible assumption | exact unhid (by with_reducible assumption) | rfl | (first | omega | (have z_ := unhid u11_; omega)) | trivial)) ?_
      rintro _ _ ⟨dt9, rfl, hI10, hF11, h8⟩
      refine ⟨rfl, ?_⟩
      have hF12 : Fr [79, 84] dt dt9 := Fr_tr hF hF11 (by decide)
      rcases h8 with ⟨rfl, h8⟩ | ⟨rfl, h8⟩
      · skip
        obtain ⟨h8_0, h8_1, h8_2, h8_3, h8_4⟩ := h8
        have w13 : dt9 79 2 = dt 79 2 := h8_1
        have w14 : dt9 79 9 = dt 79 9 := h8_2
        have w15 : dt9 79 10 = dt 79 10 := h8_3
        have w16 : dt9 79 12 = dt 79 12 := h8_4
        have fl17 := RSX_0 h8_0 rfl
        have fe18 : (gC (KF 1 b n) (VF b n) (j + 1)) i = (gE (KF 1 b n) (VF b n)) i := (rfl : (gC (KF 1 b n) (VF b n) (j + 1)) i = (gC (KF 1 b n) (VF b n) (j + 1)) i).trans ((show (gC (KF 1 b n) (VF b n) (j + 1)) i = gB ((gE (KF 1 b n) (VF b n)) i) (gR1 (KF 1 b n) (VF b n)) by exact (gC_1 (by (first | omega | (have z_ := unhid u11_; omega))) (by (first | omega | (have z_ := unhid u11_; omega)))).trans gC1_R).trans (gB_no fl17.1))
        clear h8_1 h8_2 h8_3 h8_4
        refine go_retq PM170 (k := 2) (r := some (.inl 0)) (w1 := (SH, dt9)) rfl ?_
        exact ⟨dt9, rfl, hI10, hF12, (Or.inl ⟨rfl, ⟨by first | exact RSX_f fe18 fl17 (by first | rfl | with_reducible assumption | exact unhid (by with_reducible assumption) | (first | omega | (have z_ := unhid u11_; omega))) (by first | rfl | with_reducible assumption | exact unhid (by with_reducible assumption) | (first | omega | (have z_ := unhid u11_; omega))) | exact RSX_no (k := 1) (j := i) ((rfl : (gC (KF 1 b n) (VF b n) (j + 1)) i = (gC (KF 1 b n) (VF b n) (j + 1)) i).trans (by show gR1 _ _ _ = _; unfold gR1; rw [if_neg (by (first | omega | (have z_ := unhid u11_; omega)))])) (by decide) (by (first | omega | (have z_ := unhid u11_; omega))) (by show _ = ((TP b n i : Nat) : Int); (first | omega | (have z_ := unhid u11_; omega))), by first | exact True.intro | with_reducible assumption | exact unhid (by with_reducible assumption) | rfl | (first | omega | (have z_ := unhid u11_; omega)) | trivial, by first | exact True.intro | with_reducible assumption | exact unhid (by with_reducible assumption) | rfl | (first | omega | (have z_ := unhid u11_; omega)) | trivial, by first | exact True.intro | with_reducible assumption | exact unhid (by with_reducible assumption) | rfl | (first | omega | (have z_ := unhid u11_; omega)) | trivial, by first | exact True.intro | with_reducible assumption | exact unhid (by with_reducible assumption) | rfl | (first | omega | (have z_ := unhid u11_; omega)) | trivial⟩⟩)⟩
      · skip
        obtain ⟨h8_0, h8_1, h8_2, h8_3, h8_4, h8_5, h8_6, h8_7, h8_8, h8_9⟩ := h8
        have w19 : dt9 79 2 = dt 79 2 := h8_4
        have w20 : dt9 79 9 = dt 79 9 := h8_5
        have w21 : dt9 79 10 = dt 79 10 := h8_6
        have w22 : dt9 79 12 = dt 79 12 := h8_7
        have w23 : dt9 79 17 = dt 79 17 := h8_8
        have w24 : dt9 79 20 = dt 79 20 := h8_9
        obtain ⟨j25, ej26, hc27⟩ := RSX_1 h8_0 (by decide)
        have hp28 : (gC (KF 1 b n) (VF b n) (j + 1)) i = (gR1 (KF 1 b n) (VF b n)) j25 := (rfl : (gC (KF 1 b n) (VF b n) (j + 1)) i = (gC (KF 1 b n) (VF b n) (j + 1)) i).trans ((show (gC (KF 1 b n) (VF b n) (j + 1)) i = gB ((gE (KF 1 b n) (VF b n)) i) (gR1 (KF 1 b n) (VF b n)) by exact (gC_1 (by (have z_ := unhid u11_; omega)) (by (have z_ := unhid u11_; omega))).trans gC1_R).trans (by rw [ej26]; exact gB_0))
        have hi29 : j25 ≤ t := by have z := gE_M (K := (KF 1 b n)) (V := (VF b n)) (i := i) hz; rw [ej26] at z; have y := z rfl; simp only at y; (first | omega | (have z_ := unhid u11_; omega))
        clear cr0 cb0 cd0 cv0 ck0
        have cr30 := hid (CUR_R hc27 (.inr rfl))
        have cd31 := CUR_d (hc27)
        have cb31 := hid (CUR_b hc27)
        have cv32 := hid (CUR_v hc27)
        have ck33 := hid (KZ_lt (i := j25) hz)
        have c134 := (hc27).1
        have ci35 := hi29
        clear h8_4 h8_5 h8_6 h8_7 h8_8 h8_9
        have r36 : (-2147483648) ≤ dt9 79 14 ∧ dt9 79 14 ≤ 2147483647 := InvC_get hI10 79 14 rfl rfl
        have u12_ := hid (And.intro (unhid c6) (And.intro (unhid c7) (And.intro (unhid cr30) (And.intro (unhid cb31) (And.intro (unhid cv32) (unhid ck33))))))
        refine go_ifq PM170 (k := 4) (p1 := 116) (p2 := 111) (L' := [some (.inr (.inr (some 79))), none]) (st' := []) (w' := (SH, dt9)) rfl (c_ne (a := dt9 79 14) (b := 160) (by first | exact bnd r36 (by decide) (by decide) | exact ⟨by (first | omega | (have z_ := unhid u12_; omega)), by (first | omega | (have z_ := unhid u12_; omega))⟩) ⟨by decide, by decide⟩) (fun c37 => ?_) (fun c37 => ?_)
        · skip
          replace c37 := hid c37
          have u13_ := hid (And.intro (unhid c6) (And.intro (unhid c7) (And.intro (unhid cr30) (And.intro (unhid cb31) (And.intro (unhid cv32) (And.intro (unhid ck33) (unhid c37)))))))
          refine go_ifq PM170 (k := 3) (p1 := 131) (p2 := 126) (L' := [some (.inr (.inr (some 79))), none]) (st' := []) (w' := (SH, dt9)) rfl (c_ne (a := dt9 79 14) (b := 161) (by first | exact bnd r36 (by decide) (by decide) | exact ⟨by (first | omega | (have z_ := unhid u13_; omega)), by (first | omega | (have z_ := unhid u13_; omega))⟩) ⟨by decide, by decide⟩) (fun c38 => ?_) (fun c38 => ?_)
          · skip
            replace c38 := hid c38
            have u14_ := hid (And.intro (unhid c6) (And.intro (unhid c7) (And.intro (unhid cr30) (And.intro (unhid cb31) (And.intro (unhid cv32) (And.intro (unhid ck33) (And.intro (unhid c37) (unhid c38))))))))
            have v15_ := hid (And.intro (unhid cr30) (And.intro (unhid cb31) (And.intro (unhid cv32) (unhid ck33))))
            refine go_ifq PM170 (k := 3) (p1 := 146) (p2 := 141) (L' := [some (.inr (.inr (some 79))), none]) (st' := []) (w' := (SH, dt9)) rfl (c_ne (a := dt9 79 14) (b := 162) (by first | exact bnd r36 (by decide) (by decide) | exact ⟨by (first | omega | (have z_ := unhid v15_; omega) | (have z_ := unhid u14_; omega)), by (first | omega | (have z_ := unhid v15_; omega) | (have z_ := unhid u14_; omega))⟩) ⟨by decide, by decide⟩) (fun c39 => ?_) (fun c39 => ?_)
            · skip
              replace c39 := hid c39
              refine go_toq PM170 (k := 7) (pc' := 155) (L' := [some (.inr (.inr (some 79))), some (.inl (-1))]) (st' := [.inl 1, .inr (.inr (some 79))]) (w' := (SH, dt9)) rfl ?_
              refine go_callq PM170 PM160 (Q' := _) rfl rfl rfl rfl (sp_X6_bad_g L xs sio (d + 12) dt9 hI10  1 ⟨by decide, by decide⟩ ) ?_
              rintro _ _ ⟨dt41, rfl, hI42, hF43, h40⟩
              refine ⟨rfl, ?_⟩
              have hF44 : Fr [79, 84] dt dt41 := Fr_tr hF12 hF43 (by decide)
              rcases h40 with ⟨rfl, h40⟩
              obtain ⟨h40_0, h40_1, h40_2, h40_3, h40_4, h40_5, h40_6, h40_7, h40_8, h40_9, h40_10, h40_11⟩ := h40
              have w45 : dt41 79 2 = dt 79 2 := h40_2.trans w19
              have w46 : dt41 79 9 = dt 79 9 := h40_3.trans w20
              have w47 : dt41 79 10 = dt 79 10 := h40_4.trans w21
              have w48 : dt41 79 11 = dt9 79 11 := h40_5
              have w49 : dt41 79 12 = dt 79 12 := h40_6.trans w22
              have w50 : dt41 79 13 = dt9 79 13 := h40_7
              have w51 : dt41 79 14 = dt9 79 14 := h40_8
              have w52 : dt41 79 15 = dt9 79 15 := h40_9
              have w53 : dt41 79 16 = dt9 79 16 := h40_10
              have w54 : dt41 79 20 = dt 79 20 := h40_11.trans w24
              have u16_ := hid (And.intro (unhid c6) (And.intro (unhid c7) (And.intro (unhid cr30) (And.intro (unhid cb31) (And.intro (unhid cv32) (And.intro (unhid ck33) (And.intro (unhid c37) (And.intro (unhid c38) (unhid c39)))))))))
              have hc55 : CUR 1 b n dt41 j25 := CUR_sm hc27 (by first | with_reducible assumption | exact unhid (by with_reducible assumption) | rfl | (first | omega | (have z_ := unhid v15_; omega) | (have z_ := unhid u16_; omega))) (by first | with_reducible assumption | exact unhid (by with_reducible assumption) | rfl | (first | omega | (have z_ := unhid v15_; omega) | (have z_ := unhid u16_; omega))) (by first | with_reducible assumption | exact unhid (by with_reducible assumption) | rfl | (first | omega | (have z_ := unhid v15_; omega) | (have z_ := unhid u16_; omega))) (by first | with_reducible assumption | exact unhid (by with_reducible assumption) | rfl | (first | omega | (have z_ := unhid v15_; omega) | (have z_ := unhid u16_; omega)))
              clear h40_2 w19 h40_3 w20 h40_4 h40_5 h40_6 w22 h40_7 h40_8 h40_9 h40_10 h40_11 w24
              refine go_retq PM170 (k := 0) (r := some (.inl 0)) (w1 := (SH, dt41)) rfl ?_
              exact ⟨dt41, rfl, hI42, hF44, (Or.inl ⟨rfl, ⟨by first | exact RSX_f hI hI (by first | rfl | with_reducible assumption | exact unhid (by with_reducible assumption) | (first | omega | (have z_ := unhid v15_; omega) | (have z_ := unhid u16_; omega))) (by first | rfl | with_reducible assumption | exact unhid (by with_reducible assumption) | (first | omega | (have z_ := unhid v15_; omega) | (have z_ := unhid u16_; omega))) | exact RSX_no (k := 1) (j := j25) (hp28.trans (by show gR1 _ _ _ = _; unfold gR1; rw [if_neg (by (first | omega | (have z_ := unhid v15_; omega) | (have z_ := unhid u16_; omega)))])) (by decide) (by (first | omega | (have z_ := unhid v15_; omega) | (have z_ := unhid u16_; omega))) (by show _ = ((TP b n j25 : Nat) : Int); (first | omega | (have z_ := unhid v15_; omega) | (have z_ := unhid u16_; omega))), by first | exact True.intro | with_reducible assumption | exact unhid (by with_reducible assumption) | rfl | (first | omega | (have z_ := unhid v15_; omega) | (have z_ := unhid u16_; omega)) | trivial, by first | exact True.intro | with_reducible assumption | exact unhid (by with_reducible assumption) | rfl | (first | omega | (have z_ := unhid v15_; omega) | (have z_ := unhid u16_; omega)) | trivial, by first | exact True.intro | with_reducible assumption | exact unhid (by with_reducible assumption) | rfl | (first | omega | (have z_ := unhid v15_; omega) | (have z_ := unhid u16_; omega)) | trivial, by first | exact True.intro | with_reducible assumption | exact unhid (by with_reducible assumption) | rfl | (first | omega | (have z_ := unhid v15_; omega) | (have z_ := unhid u16_; omega)) | trivial⟩⟩)⟩
            · skip
              refine go_toq PM170 (k := 7) (pc' := 160) (L' := [some (.inr (.inr (some 79))), some (.inl 13)]) (st' := [.inr (.inr (some 79))]) (w' := (SH, dt9)) rfl ?_
              refine go_callq PM170 PM159 (Q' := _) rfl rfl rfl rfl (sp_X6_next0_p1 L xs sio (d + 6) dt9 hI10   (by first | exact True.intro | with_reducible assumption | exact unhid (by with_reducible assumption) | rfl | (first | omega | (have z_ := unhid v15_; omega) | (have z_ := unhid u14_; omega)) | trivial) (by first | exact True.intro | with_reducible assumption | exact unhid (by with_reducible assumption) | rfl | (first | omega | (have z_ := unhid v15_; omega) | (have z_ := unhid u14_; omega)) | trivial)) ?_
              rintro _ _ ⟨dt57, rfl, hI58, hF59, h56⟩
              refine ⟨rfl, ?_⟩
              have hF60 : Fr [79, 84] dt dt57 := Fr_tr hF12 hF59 (by decide)
              rcases h56 with ⟨rfl, h56⟩
              obtain ⟨h56_0, h56_1, h56_2, h56_3, h56_4, h56_5, h56_6, h56_7, h56_8⟩ := h56
              have w61 : dt57 79 2 = dt 79 2 := h56_2.trans w19
              have w62 : dt57 79 9 = dt 79 9 := h56_3.trans w20
              have w63 : dt57 79 10 = dt 79 10 := h56_4.trans w21
              have w64 : dt57 79 11 = dt9 79 11 := h56_5
              have w65 : dt57 79 12 = dt 79 12 := h56_6.trans w22
              have w66 : dt57 79 17 = dt 79 17 := h56_7.trans w23
              have w67 : dt57 79 20 = dt 79 20 := h56_8.trans w24
              have hq68 := h56_0
              rw [show dt9 85 = dt 85 from funext (hF12 85 (by decide)), show dt9 79 12 = dt 79 12 by first | with_reducible assumption | exact unhid (by with_reducible assumption) | (first | omega | (have z_ := unhid v15_; omega) | (have z_ := unhid u14_; omega)), hbb, show (dt 79 12).toNat = n from (congrArg Int.toNat hnn).trans (Int.toNat_natCast n)] at hq68
              have hc69 : CUR 1 b n dt57 (j25 + 1) := CUR_n hc27 hq68
              have hi70 : j25 + 1 ≤ t := by (have z_ := unhid u14_; omega)
              have av71 : dt9 79 15 + 1 ≤ dt9 79 13 := by (have z_ := unhid u14_; omega)
              have hp72 : (gC (KF 1 b n) (VF b n) (j + 1)) i = (gE (KF 1 b n) (VF b n)) (j25 + 1) := hp28.trans (by show gR1 _ _ j25 = _; unfold gR1; rw [if_pos (by (have z_ := unhid u14_; omega))])
              clear cr30 cb31 cd31 cv32 ck33
              have cr73 := hid (CUR_R hc69 (.inr rfl))
              have cd74 := CUR_d (hc69)
              have cb74 := hid (CUR_b hc69)
              have cv75 := hid (CUR_v hc69)
              have ck76 := hid (KZ_lt (i := (j25 + 1)) hz)
              have c177 := (hc69).1
              have ci78 := hi70
              clear h56_2 w19 h56_3 w20 h56_4 h56_5 h56_6 w22 h56_7 w23 h56_8 w24
              refine go_toq PM170 (k := 1) (pc' := 164) (L' := [some (.inr (.inr (some 79))), some (.inl 13)]) (st' := [.inr (.inr (some 79))]) (w' := (SH, dt57)) rfl ?_
              have u17_ := hid (And.intro (unhid c6) (And.intro (unhid c7) (And.intro (unhid c37) (And.intro (unhid c38) (And.intro (unhid cr73) (And.intro (unhid cb74) (And.intro (unhid cv75) (unhid ck76))))))))
              have v18_ := hid (And.intro (unhid cr73) (And.intro (unhid cb74) (And.intro (unhid cv75) (unhid ck76))))
              refine go_callq PM170 PM165 (Q' := _) rfl rfl rfl rfl (sp_X6_sumUp_g L xs sio (d + 3) dt57 hI58 b n t (j25 + 1) (by first | exact hbb | (rw [show dt57 85 = dt 85 from funext (hF60 85 (by decide)), show dt57 79 12 = dt 79 12 by first | with_reducible assumption | exact unhid (by with_reducible assumption) | (first | omega | (have z_ := unhid v18_; omega) | (have z_ := unhid u17_; omega))]; exact hbb)) (by first | with_reducible assumption | exact unhid (by with_reducible assumption) | exact Eq.trans (by with_reducible assumption) hnn | (first | omega | (have z_ := unhid v18_; omega) | (have z_ := unhid u17_; omega))) hz ht hc69 hi70 hn5  (by first | exact True.intro | with_reducible assumption | exact unhid (by with_reducible assumption) | rfl | (first | omega | (have z_ := unhid v18_; omega) | (have z_ := unhid u17_; omega)) | trivial) (by first | exact True.intro | with_reducible assumption | exact unhid (by with_reducible assumption) | rfl | (first | omega | (have z_ := unhid v18_; omega) | (have z_ := unhid u17_; omega)) | trivial)) ?_
              rintro _ _ ⟨dt80, rfl, hI81, hF82, h79⟩
              refine ⟨rfl, ?_⟩
              have hF83 : Fr [79, 84] dt dt80 := Fr_tr hF60 hF82 (by decide)
              rcases h79 with ⟨rfl, h79⟩ | ⟨rfl, h79⟩
              · skip
                obtain ⟨h79_0, h79_1, h79_2, h79_3, h79_4⟩ := h79
                have w84 : dt80 79 2 = dt 79 2 := h79_1.trans w61
                have w85 : dt80 79 9 = dt 79 9 := h79_2.trans w62
                have w86 : dt80 79 10 = dt 79 10 := h79_3.trans w63
                have w87 : dt80 79 12 = dt 79 12 := h79_4.trans w65
                have fl88 := RSX_0 h79_0 rfl
                have fe89 : (gC (KF 1 b n) (VF b n) (j + 1)) i = (gE (KF 1 b n) (VF b n)) (j25 + 1) := hp72.trans ((show (gE (KF 1 b n) (VF b n)) (j25 + 1) = gB ((gE (KF 1 b n) (VF b n)) (j25 + 1)) gOk by exact gB_id.symm).trans (gB_no fl88.1))
                clear h79_1 w61 h79_2 w62 h79_3 h79_4 w65
                refine go_retq PM170 (k := 2) (r := some (.inl 0)) (w1 := (SH, dt80)) rfl ?_
                exact ⟨dt80, rfl, hI81, hF83, (Or.inl ⟨rfl, ⟨by first | exact RSX_f fe89 fl88 (by first | rfl | with_reducible assumption | exact unhid (by with_reducible assumption) | (first | omega | (have z_ := unhid v18_; omega) | (have z_ := unhid u17_; omega))) (by first | rfl | with_reducible assumption | exact unhid (by with_reducible assumption) | (first | omega | (have z_ := unhid v18_; omega) | (have z_ := unhid u17_; omega))) | exact RSX_no (k := 1) (j := (j25 + 1)) (hp72.trans (by show gR1 _ _ _ = _; unfold gR1; rw [if_neg (by (first | omega | (have z_ := unhid v18_; omega) | (have z_ := unhid u17_; omega)))])) (by decide) (by (first | omega | (have z_ := unhid v18_; omega) | (have z_ := unhid u17_; omega))) (by show _ = ((TP b n (j25 + 1) : Nat) : Int); (first | omega | (have z_ := unhid v18_; omega) | (have z_ := unhid u17_; omega))), by first | exact True.intro | with_reducible assumption | exact unhid (by with_reducible assumption) | rfl | (first | omega | (have z_ := unhid v18_; omega) | (have z_ := unhid u17_; omega)) | trivial, by first | exact True.intro | with_reducible assumption | exact unhid (by with_reducible assumption) | rfl | (first | omega | (have z_ := unhid v18_; omega) | (have z_ := unhid u17_; omega)) | trivial, by first | exact True.intro | with_reducible assumption | exact unhid (by with_reducible assumption) | rfl | (first | omega | (have z_ := unhid v18_; omega) | (have z_ := unhid u17_; omega)) | trivial, by first | exact True.intro | with_reducible assumption | exact unhid (by with_reducible assumption) | rfl | (first | omega | (have z_ := unhid v18_; omega) | (have z_ := unhid u17_; omega)) | trivial⟩⟩)⟩
              · skip
                obtain ⟨h79_0, h79_1, h79_2, h79_3, h79_4, h79_5, h79_6, h79_7, h79_8, h79_9⟩ := h79
                have w90 : dt80 79 2 = dt 79 2 := h79_4.trans w61
                have w91 : dt80 79 9 = dt 79 9 := h79_5.trans w62
                have w92 : dt80 79 10 = dt 79 10 := h79_6.trans w63
                have w93 : dt80 79 12 = dt 79 12 := h79_7.trans w65
                have w94 : dt80 79 17 = dt 79 17 := h79_8.trans w66
                have w95 : dt80 79 20 = dt 79 20 := h79_9.trans w67
                obtain ⟨j96, ej97, hc98⟩ := RSX_1 h79_0 (by decide)
                have hp99 : (gC (KF 1 b n) (VF b n) (j + 1)) i = gOk j96 := hp72.trans ((show (gE (KF 1 b n) (VF b n)) (j25 + 1) = gB ((gE (KF 1 b n) (VF b n)) (j25 + 1)) gOk by exact gB_id.symm).trans (by rw [ej97]; exact gB_0))
                have hi100 : j96 ≤ t := by have z := gE_M (K := (KF 1 b n)) (V := (VF b n)) (i := (j25 + 1)) hz; rw [ej97] at z; have y := z rfl; simp only at y; (first | omega | (have z_ := unhid v18_; omega) | (have z_ := unhid u17_; omega))
                clear cr73 cb74 cd74 cv75 ck76
                have cr101 := hid (CUR_R hc98 (.inr rfl))
                have cd102 := CUR_d (hc98)
                have cb102 := hid (CUR_b hc98)
                have cv103 := hid (CUR_v hc98)
                have ck104 := hid (KZ_lt (i := j96) hz)
                have c1105 := (hc98).1
                have ci106 := hi100
                clear h79_4 w61 h79_5 w62 h79_6 h79_7 w65 h79_8 w66 h79_9 w67
                refine go_toq PM170 (k := 4) (pc' := 175) (L' := [some (.inr (.inr (some 79))), some (.inl 13)]) (st' := [.inl 0, .inl 13, .inr (.inr (some 79))]) (w' := (SH, dt80)) rfl ?_
                have u19_ := hid (And.intro (unhid c6) (And.intro (unhid c7) (And.intro (unhid c37) (And.intro (unhid c38) (And.intro (unhid cr101) (And.intro (unhid cb102) (And.intro (unhid cv103) (unhid ck104))))))))
                have v20_ := hid (And.intro (unhid cr101) (And.intro (unhid cb102) (And.intro (unhid cv103) (unhid ck104))))
                refine go_callq PM170 PM163 (Q' := _) rfl rfl rfl rfl (sp_X6_lay_g L xs sio (d + 12) dt80 hI81  13 ⟨by decide, by decide⟩ 0 ⟨by decide, by decide⟩ (by first | exact True.intro | with_reducible assumption | exact unhid (by with_reducible assumption) | rfl | (first | omega | (have z_ := unhid v20_; omega) | (have z_ := unhid u19_; omega)) | trivial)) ?_
                rintro _ _ ⟨dt108, rfl, hI109, hF110, h107⟩
                refine ⟨rfl, ?_⟩
                have hF111 : Fr [79, 84] dt dt108 := Fr_tr hF83 hF110 (by decide)
                rcases h107 with ⟨rfl, h107⟩
                obtain ⟨h107_0, h107_1, h107_2, h107_3, h107_4, h107_5, h107_6, h107_7, h107_8, h107_9, h107_10⟩ := h107
                have w112 : dt108 79 2 = dt 79 2 := h107_1.trans w90
                have w113 : dt108 79 9 = dt 79 9 := h107_2.trans w91
                have w114 : dt108 79 10 = dt 79 10 := h107_3.trans w92
                have w115 : dt108 79 12 = dt 79 12 := h107_4.trans w93
                have w116 : dt108 79 13 = dt80 79 13 := h107_5
                have w117 : dt108 79 14 = dt80 79 14 := h107_6
                have w118 : dt108 79 15 = dt80 79 15 := h107_7
                have w119 : dt108 79 16 = dt80 79 16 := h107_8
                have w120 : dt108 79 17 = dt 79 17 := h107_9.trans w94
                have w121 : dt108 79 20 = dt 79 20 := h107_10.trans w95
                have hc122 : CUR 1 b n dt108 j96 := CUR_sm hc98 (by first | with_reducible assumption | exact unhid (by with_reducible assumption) | rfl | (first | omega | (have z_ := unhid v20_; omega) | (have z_ := unhid u19_; omega))) (by first | with_reducible assumption | exact unhid (by with_reducible assumption) | rfl | (first | omega | (have z_ := unhid v20_; omega) | (have z_ := unhid u19_; omega))) (by first | with_reducible assumption | exact unhid (by with_reducible assumption) | rfl | (first | omega | (have z_ := unhid v20_; omega) | (have z_ := unhid u19_; omega))) (by first | with_reducible assumption | exact unhid (by with_reducible assumption) | rfl | (first | omega | (have z_ := unhid v20_; omega) | (have z_ := unhid u19_; omega)))
                clear h107_1 w90 h107_2 w91 h107_3 h107_4 w93 h107_5 h107_6 h107_7 h107_8 h107_9 w94 h107_10 w95
                refine go_retq PM170 (k := 1) (r := some (.inl 1)) (w1 := (SH, dt108)) rfl ?_
                exact ⟨dt108, rfl, hI109, hF111, (Or.inr ⟨rfl, ⟨by exact RSX_ok (hp99.trans (by rfl)) hc122, by first | exact True.intro | with_reducible assumption | exact unhid (by with_reducible assumption) | rfl | (first | omega | (have z_ := unhid v20_; omega) | (have z_ := unhid u19_; omega)) | trivial, by first | exact True.intro | with_reducible assumption | exact unhid (by with_reducible assumption) | rfl | (first | omega | (have z_ := unhid v20_; omega) | (have z_ := unhid u19_; omega)) | trivial, by exact (InvC_get (by assumption) 79 15 rfl rfl).2, by first | exact True.intro | with_reducible assumption | exact unhid (by with_reducible assumption) | rfl | (first | omega | (have z_ := unhid v20_; omega) | (have z_ := unhid u19_; omega)) | trivial, by first | exact True.intro | with_reducible assumption | exact unhid (by with_reducible assumption) | rfl | (first | omega | (have z_ := unhid v20_; omega) | (have z_ := unhid u19_; omega)) | trivial, by first | exact True.intro | with_reducible assumption | exact unhid (by with_reducible assumption) | rfl | (first | omega | (have z_ := unhid v20_; omega) | (have z_ := unhid u19_; omega)) | trivial, by first | exact True.intro | with_reducible assumption | exact unhid (by with_reducible assumption) | rfl | (first | omega | (have z_ := unhid v20_; omega) | (have z_ := unhid u19_; omega)) | trivial, by first | exact True.intro | with_reducible assumption | exact unhid (by with_reducible assumption) | rfl | (first | omega | (have z_ := unhid v20_; omega) | (have z_ := unhid u19_; omega)) | trivial, by first | exact True.intro | with_reducible assumption | exact unhid (by with_reducible assumption) | rfl | (first | omega | (have z_ := unhid v20_; omega) | (have z_ := unhid u19_; omega)) | trivial⟩⟩)⟩
          · skip
            refine go_toq PM170 (k := 7) (pc' := 160) (L' := [some (.inr (.inr (some 79))), some (.inl 12)]) (st' := [.inr (.inr (some 79))]) (w' := (SH, dt9)) rfl ?_
            refine go_callq PM170 PM159 (Q' := _) rfl rfl rfl rfl (sp_X6_next0_p1 L xs sio (d + 6) dt9 hI10   (by first | exact True.intro | with_reducible assumption | exact unhid (by with_reducible assumption) | rfl | (first | omega | (have z_ := unhid u13_; omega)) | trivial) (by first | exact True.intro | with_reducible assumption | exact unhid (by with_reducible assumption) | rfl | (first | omega | (have z_ := unhid u13_; omega)) | trivial)) ?_
            rintro _ _ ⟨dt124, rfl, hI125, hF126, h123⟩
            refine ⟨rfl, ?_⟩
            have hF127 : Fr [79, 84] dt dt124 := Fr_tr hF12 hF126 (by decide)
            rcases h123 with ⟨rfl, h123⟩
            obtain ⟨h123_0, h123_1, h123_2, h123_3, h123_4, h123_5, h123_6, h123_7, h123_8⟩ := h123
            have w128 : dt124 79 2 = dt 79 2 := h123_2.trans w19
            have w129 : dt124 79 9 = dt 79 9 := h123_3.trans w20
            have w130 : dt124 79 10 = dt 79 10 := h123_4.trans w21
            have w131 : dt124 79 11 = dt9 79 11 := h123_5
            have w132 : dt124 79 12 = dt 79 12 := h123_6.trans w22
            have w133 : dt124 79 17 = dt 79 17 := h123_7.trans w23
            have w134 : dt124 79 20 = dt 79 20 := h123_8.trans w24
            have hq135 := h123_0
            rw [show dt9 85 = dt 85 from funext (hF12 85 (by decide)), show dt9 79 12 = dt 79 12 by first | with_reducible assumption | exact unhid (by with_reducible assumption) | (first | omega | (have z_ := unhid u13_; omega)), hbb, show (dt 79 12).toNat = n from (congrArg Int.toNat hnn).trans (Int.toNat_natCast n)] at hq135
            have hc136 : CUR 1 b n dt124 (j25 + 1) := CUR_n hc27 hq135
            have hi137 : j25 + 1 ≤ t := by (have z_ := unhid u13_; omega)
            have av138 : dt9 79 15 + 1 ≤ dt9 79 13 := by (have z_ := unhid u13_; omega)
            have hp139 : (gC (KF 1 b n) (VF b n) (j + 1)) i = (gE (KF 1 b n) (VF b n)) (j25 + 1) := hp28.trans (by show gR1 _ _ j25 = _; unfold gR1; rw [if_pos (by (have z_ := unhid u13_; omega))])
            clear cr30 cb31 cd31 cv32 ck33
            have cr140 := hid (CUR_R hc136 (.inr rfl))
            have cd141 := CUR_d (hc136)
            have cb141 := hid (CUR_b hc136)
            have cv142 := hid (CUR_v hc136)
            have ck143 := hid (KZ_lt (i := (j25 + 1)) hz)
            have c1144 := (hc136).1
            have ci145 := hi137
            clear h123_2 w19 h123_3 w20 h123_4 h123_5 h123_6 w22 h123_7 w23 h123_8 w24
            refine go_toq PM170 (k := 1) (pc' := 164) (L' := [some (.inr (.inr (some 79))), some (.inl 12)]) (st' := [.inr (.inr (some 79))]) (w' := (SH, dt124)) rfl ?_
            have u21_ := hid (And.intro (unhid c6) (And.intro (unhid c7) (And.intro (unhid c37) (And.intro (unhid cr140) (And.intro (unhid cb141) (And.intro (unhid cv142) (unhid ck143)))))))
            refine go_callq PM170 PM165 (Q' := _) rfl rfl rfl rfl (sp_X6_sumUp_g L xs sio (d + 3) dt124 hI125 b n t (j25 + 1) (by first | exact hbb | (rw [show dt124 85 = dt 85 from funext (hF127 85 (by decide)), show dt124 79 12 = dt 79 12 by first | with_reducible assumption | exact unhid (by with_reducible assumption) | (first | omega | (have z_ := unhid u21_; omega))]; exact hbb)) (by first | with_reducible assumption | exact unhid (by with_reducible assumption) | exact Eq.trans (by with_reducible assumption) hnn | (first | omega | (have z_ := unhid u21_; omega))) hz ht hc136 hi137 hn5  (by first | exact True.intro | with_reducible assumption | exact unhid (by with_reducible assumption) | rfl | (first | omega | (have z_ := unhid u21_; omega)) | trivial) (by first | exact True.intro | with_reducible assumption | exact unhid (by with_reducible assumption) | rfl | (first | omega | (have z_ := unhid u21_; omega)) | trivial)) ?_
            rintro _ _ ⟨dt147, rfl, hI148, hF149, h146⟩
            refine ⟨rfl, ?_⟩
            have hF150 : Fr [79, 84] dt dt147 := Fr_tr hF127 hF149 (by decide)
            rcases h146 with ⟨rfl, h146⟩ | ⟨rfl, h146⟩
            · skip
              obtain ⟨h146_0, h146_1, h146_2, h146_3, h146_4⟩ := h146
              have w151 : dt147 79 2 = dt 79 2 := h146_1.trans w128
              have w152 : dt147 79 9 = dt 79 9 := h146_2.trans w129
              have w153 : dt147 79 10 = dt 79 10 := h146_3.trans w130
              have w154 : dt147 79 12 = dt 79 12 := h146_4.trans w132
              have fl155 := RSX_0 h146_0 rfl
              have fe156 : (gC (KF 1 b n) (VF b n) (j + 1)) i = (gE (KF 1 b n) (VF b n)) (j25 + 1) := hp139.trans ((show (gE (KF 1 b n) (VF b n)) (j25 + 1) = gB ((gE (KF 1 b n) (VF b n)) (j25 + 1)) gOk by exact gB_id.symm).trans (gB_no fl155.1))
              clear h146_1 w128 h146_2 w129 h146_3 h146_4 w132
              refine go_retq PM170 (k := 2) (r := some (.inl 0)) (w1 := (SH, dt147)) rfl ?_
              exact ⟨dt147, rfl, hI148, hF150, (Or.inl ⟨rfl, ⟨by first | exact RSX_f fe156 fl155 (by first | rfl | with_reducible assumption | exact unhid (by with_reducible assumption) | (first | omega | (have z_ := unhid u21_; omega))) (by first | rfl | with_reducible assumption | exact unhid (by with_reducible assumption) | (first | omega | (have z_ := unhid u21_; omega))) | exact RSX_no (k := 1) (j := (j25 + 1)) (hp139.trans (by show gR1 _ _ _ = _; unfold gR1; rw [if_neg (by (first | omega | (have z_ := unhid u21_; omega)))])) (by decide) (by (first | omega | (have z_ := unhid u21_; omega))) (by show _ = ((TP b n (j25 + 1) : Nat) : Int); (first | omega | (have z_ := unhid u21_; omega))), by first | exact True.intro | with_reducible assumption | exact unhid (by with_reducible assumption) | rfl | (first | omega | (have z_ := unhid u21_; omega)) | trivial, by first | exact True.intro | with_reducible assumption | exact unhid (by with_reducible assumption) | rfl | (first | omega | (have z_ := unhid u21_; omega)) | trivial, by first | exact True.intro | with_reducible assumption | exact unhid (by with_reducible assumption) | rfl | (first | omega | (have z_ := unhid u21_; omega)) | trivial, by first | exact True.intro | with_reducible assumption | exact unhid (by with_reducible assumption) | rfl | (first | omega | (have z_ := unhid u21_; omega)) | trivial⟩⟩)⟩
            · skip
              obtain ⟨h146_0, h146_1, h146_2, h146_3, h146_4, h146_5, h146_6, h146_7, h146_8, h146_9⟩ := h146
              have w157 : dt147 79 2 = dt 79 2 := h146_4.trans w128
              have w158 : dt147 79 9 = dt 79 9 := h146_5.trans w129
              have w159 : dt147 79 10 = dt 79 10 := h146_6.trans w130
              have w160 : dt147 79 12 = dt 79 12 := h146_7.trans w132
              have w161 : dt147 79 17 = dt 79 17 := h146_8.trans w133
              have w162 : dt147 79 20 = dt 79 20 := h146_9.trans w134
              obtain ⟨j163, ej164, hc165⟩ := RSX_1 h146_0 (by decide)
              have hp166 : (gC (KF 1 b n) (VF b n) (j + 1)) i = gOk j163 := hp139.trans ((show (gE (KF 1 b n) (VF b n)) (j25 + 1) = gB ((gE (KF 1 b n) (VF b n)) (j25 + 1)) gOk by exact gB_id.symm).trans (by rw [ej164]; exact gB_0))
              have hi167 : j163 ≤ t := by have z := gE_M (K := (KF 1 b n)) (V := (VF b n)) (i := (j25 + 1)) hz; rw [ej164] at z; have y := z rfl; simp only at y; (first | omega | (have z_ := unhid u21_; omega))
              clear cr140 cb141 cd141 cv142 ck143
              have cr168 := hid (CUR_R hc165 (.inr rfl))
              have cd169 := CUR_d (hc165)
              have cb169 := hid (CUR_b hc165)
              have cv170 := hid (CUR_v hc165)
              have ck171 := hid (KZ_lt (i := j163) hz)
              have c1172 := (hc165).1
              have ci173 := hi167
              clear h146_4 w128 h146_5 w129 h146_6 h146_7 w132 h146_8 w133 h146_9 w134
              refine go_toq PM170 (k := 4) (pc' := 175) (L' := [some (.inr (.inr (some 79))), some (.inl 12)]) (st' := [.inl 0, .inl 12, .inr (.inr (some 79))]) (w' := (SH, dt147)) rfl ?_
              have u22_ := hid (And.intro (unhid c6) (And.intro (unhid c7) (And.intro (unhid c37) (And.intro (unhid cr168) (And.intro (unhid cb169) (And.intro (unhid cv170) (unhid ck171)))))))
              refine go_callq PM170 PM163 (Q' := _) rfl rfl rfl rfl (sp_X6_lay_g L xs sio (d + 12) dt147 hI148  12 ⟨by decide, by decide⟩ 0 ⟨by decide, by decide⟩ (by first | exact True.intro | with_reducible assumption | exact unhid (by with_reducible assumption) | rfl | (first | omega | (have z_ := unhid u22_; omega)) | trivial)) ?_
              rintro _ _ ⟨dt175, rfl, hI176, hF177, h174⟩
              refine ⟨rfl, ?_⟩
              have hF178 : Fr [79, 84] dt dt175 := Fr_tr hF150 hF177 (by decide)
              rcases h174 with ⟨rfl, h174⟩
              obtain ⟨h174_0, h174_1, h174_2, h174_3, h174_4, h174_5, h174_6, h174_7, h174_8, h174_9, h174_10⟩ := h174
              have w179 : dt175 79 2 = dt 79 2 := h174_1.trans w157
              have w180 : dt175 79 9 = dt 79 9 := h174_2.trans w158
              have w181 : dt175 79 10 = dt 79 10 := h174_3.trans w159
              have w182 : dt175 79 12 = dt 79 12 := h174_4.trans w160
              have w183 : dt175 79 13 = dt147 79 13 := h174_5
              have w184 : dt175 79 14 = dt147 79 14 := h174_6
              have w185 : dt175 79 15 = dt147 79 15 := h174_7
              have w186 : dt175 79 16 = dt147 79 16 := h174_8
              have w187 : dt175 79 17 = dt 79 17 := h174_9.trans w161
              have w188 : dt175 79 20 = dt 79 20 := h174_10.trans w162
              have hc189 : CUR 1 b n dt175 j163 := CUR_sm hc165 (by first | with_reducible assumption | exact unhid (by with_reducible assumption) | rfl | (first | omega | (have z_ := unhid u22_; omega))) (by first | with_reducible assumption | exact unhid (by with_reducible assumption) | rfl | (first | omega | (have z_ := unhid u22_; omega))) (by first | with_reducible assumption | exact unhid (by with_reducible assumption) | rfl | (first | omega | (have z_ := unhid u22_; omega))) (by first | with_reducible assumption | exact unhid (by with_reducible assumption) | rfl | (first | omega | (have z_ := unhid u22_; omega)))
              clear h174_1 w157 h174_2 w158 h174_3 h174_4 w160 h174_5 h174_6 h174_7 h174_8 h174_9 w161 h174_10 w162
              refine go_retq PM170 (k := 1) (r := some (.inl 1)) (w1 := (SH, dt175)) rfl ?_
              exact ⟨dt175, rfl, hI176, hF178, (Or.inr ⟨rfl, ⟨by exact RSX_ok (hp166.trans (by rfl)) hc189, by first | exact True.intro | with_reducible assumption | exact unhid (by with_reducible assumption) | rfl | (first | omega | (have z_ := unhid u22_; omega)) | trivial, by first | exact True.intro | with_reducible assumption | exact unhid (by with_reducible assumption) | rfl | (first | omega | (have z_ := unhid u22_; omega)) | trivial, by exact (InvC_get (by assumption) 79 15 rfl rfl).2, by first | exact True.intro | with_reducible assumption | exact unhid (by with_reducible assumption) | rfl | (first | omega | (have z_ := unhid u22_; omega)) | trivial, by first | exact True.intro | with_reducible assumption | exact unhid (by with_reducible assumption) | rfl | (first | omega | (have z_ := unhid u22_; omega)) | trivial, by first | exact True.intro | with_reducible assumption | exact unhid (by with_reducible assumption) | rfl | (first | omega | (have z_ := unhid u22_; omega)) | trivial, by first | exact True.intro | with_reducible assumption | exact unhid (by with_reducible assumption) | rfl | (first | omega | (have z_ := unhid u22_; omega)) | trivial, by first | exact True.intro | with_reducible assumption | exact unhid (by with_reducible assumption) | rfl | (first | omega | (have z_ := unhid u22_; omega)) | trivial, by first | exact True.intro | with_reducible assumption | exact unhid (by with_reducible assumption) | rfl | (first | omega | (have z_ := unhid u22_; omega)) | trivial⟩⟩)⟩
        · skip
          refine go_toq PM170 (k := 7) (pc' := 160) (L' := [some (.inr (.inr (some 79))), some (.inl 11)]) (st' := [.inr (.inr (some 79))]) (w' := (SH, dt9)) rfl ?_
          refine go_callq PM170 PM159 (Q' := _) rfl rfl rfl rfl (sp_X6_next0_p1 L xs sio (d + 6) dt9 hI10   (by first | exact True.intro | with_reducible assumption | exact unhid (by with_reducible assumption) | rfl | (first | omega | (have z_ := unhid u12_; omega)) | trivial) (by first | exact True.intro | with_reducible assumption | exact unhid (by with_reducible assumption) | rfl | (first | omega | (have z_ := unhid u12_; omega)) | trivial)) ?_
          rintro _ _ ⟨dt191, rfl, hI192, hF193, h190⟩
          refine ⟨rfl, ?_⟩
          have hF194 : Fr [79, 84] dt dt191 := Fr_tr hF12 hF193 (by decide)
          rcases h190 with ⟨rfl, h190⟩
          obtain ⟨h190_0, h190_1, h190_2, h190_3, h190_4, h190_5, h190_6, h190_7, h190_8⟩ := h190
          have w195 : dt191 79 2 = dt 79 2 := h190_2.trans w19
          have w196 : dt191 79 9 = dt 79 9 := h190_3.trans w20
          have w197 : dt191 79 10 = dt 79 10 := h190_4.trans w21
          have w198 : dt191 79 11 = dt9 79 11 := h190_5
          have w199 : dt191 79 12 = dt 79 12 := h190_6.trans w22
          have w200 : dt191 79 17 = dt 79 17 := h190_7.trans w23
          have w201 : dt191 79 20 = dt 79 20 := h190_8.trans w24
          have hq202 := h190_0
          rw [show dt9 85 = dt 85 from funext (hF12 85 (by decide)), show dt9 79 12 = dt 79 12 by first | with_reducible assumption | exact unhid (by with_reducible assumption) | (first | omega | (have z_ := unhid u12_; omega)), hbb, show (dt 79 12).toNat = n from (congrArg Int.toNat hnn).trans (Int.toNat_natCast n)] at hq202
          have hc203 : CUR 1 b n dt191 (j25 + 1) := CUR_n hc27 hq202
          have hi204 : j25 + 1 ≤ t := by (have z_ := unhid u12_; omega)
          have av205 : dt9 79 15 + 1 ≤ dt9 79 13 := by (have z_ := unhid u12_; omega)
          have hp206 : (gC (KF 1 b n) (VF b n) (j + 1)) i = (gE (KF 1 b n) (VF b n)) (j25 + 1) := hp28.trans (by show gR1 _ _ j25 = _; unfold gR1; rw [if_pos (by (have z_ := unhid u12_; omega))])
          clear cr30 cb31 cd31 cv32 ck33
          have cr207 := hid (CUR_R hc203 (.inr rfl))
          have cd208 := CUR_d (hc203)
          have cb208 := hid (CUR_b hc203)
          have cv209 := hid (CUR_v hc203)
          have ck210 := hid (KZ_lt (i := (j25 + 1)) hz)
          have c1211 := (hc203).1
          have ci212 := hi204
          clear h190_2 w19 h190_3 w20 h190_4 h190_5 h190_6 w22 h190_7 w23 h190_8 w24
          refine go_toq PM170 (k := 1) (pc' := 164) (L' := [some (.inr (.inr (some 79))), some (.inl 11)]) (st' := [.inr (.inr (some 79))]) (w' := (SH, dt191)) rfl ?_
          have u23_ := hid (And.intro (unhid c6) (And.intro (unhid c7) (And.intro (unhid cr207) (And.intro (unhid cb208) (And.intro (unhid cv209) (unhid ck210))))))
          refine go_callq PM170 PM165 (Q' := _) rfl rfl rfl rfl (sp_X6_sumUp_g L xs sio (d + 3) dt191 hI192 b n t (j25 + 1) (by first | exact hbb | (rw [show dt191 85 = dt 85 from funext (hF194 85 (by decide)), show dt191 79 12 = dt 79 12 by first | with_reducible assumption | exact unhid (by with_reducible assumption) | (first | omega | (have z_ := unhid u23_; omega))]; exact hbb)) (by first | with_reducible assumption | exact unhid (by with_reducible assumption) | exact Eq.trans (by with_reducible assumption) hnn | (first | omega | (have z_ := unhid u23_; omega))) hz ht hc203 hi204 hn5  (by first | exact True.intro | with_reducible assumption | exact unhid (by with_reducible assumption) | rfl | (first | omega | (have z_ := unhid u23_; omega)) | trivial) (by first | exact True.intro | with_reducible assumption | exact unhid (by with_reducible assumption) | rfl | (first | omega | (have z_ := unhid u23_; omega)) | trivial)) ?_
          rintro _ _ ⟨dt214, rfl, hI215, hF216, h213⟩
          refine ⟨rfl, ?_⟩
          have hF217 : Fr [79, 84] dt dt214 := Fr_tr hF194 hF216 (by decide)
          rcases h213 with ⟨rfl, h213⟩ | ⟨rfl, h213⟩
          · skip
            obtain ⟨h213_0, h213_1, h213_2, h213_3, h213_4⟩ := h213
            have w218 : dt214 79 2 = dt 79 2 := h213_1.trans w195
            have w219 : dt214 79 9 = dt 79 9 := h213_2.trans w196
            have w220 : dt214 79 10 = dt 79 10 := h213_3.trans w197
            have w221 : dt214 79 12 = dt 79 12 := h213_4.trans w199
            have fl222 := RSX_0 h213_0 rfl
            have fe223 : (gC (KF 1 b n) (VF b n) (j + 1)) i = (gE (KF 1 b n) (VF b n)) (j25 + 1) := hp206.trans ((show (gE (KF 1 b n) (VF b n)) (j25 + 1) = gB ((gE (KF 1 b n) (VF b n)) (j25 + 1)) gOk by exact gB_id.symm).trans (gB_no fl222.1))
            clear h213_1 w195 h213_2 w196 h213_3 h213_4 w199
            refine go_retq PM170 (k := 2) (r := some (.inl 0)) (w1 := (SH, dt214)) rfl ?_
            exact ⟨dt214, rfl, hI215, hF217, (Or.inl ⟨rfl, ⟨by first | exact RSX_f fe223 fl222 (by first | rfl | with_reducible assumption | exact unhid (by with_reducible assumption) | (first | omega | (have z_ := unhid u23_; omega))) (by first | rfl | with_reducible assumption | exact unhid (by with_reducible assumption) | (first | omega | (have z_ := unhid u23_; omega))) | exact RSX_no (k := 1) (j := (j25 + 1)) (hp206.trans (by show gR1 _ _ _ = _; unfold gR1; rw [if_neg (by (first | omega | (have z_ := unhid u23_; omega)))])) (by decide) (by (first | omega | (have z_ := unhid u23_; omega))) (by show _ = ((TP b n (j25 + 1) : Nat) : Int); (first | omega | (have z_ := unhid u23_; omega))), by first | exact True.intro | with_reducible assumption | exact unhid (by with_reducible assumption) | rfl | (first | omega | (have z_ := unhid u23_; omega)) | trivial, by first | exact True.intro | with_reducible assumption | exact unhid (by with_reducible assumption) | rfl | (first | omega | (have z_ := unhid u23_; omega)) | trivial, by first | exact True.intro | with_reducible assumption | exact unhid (by with_reducible assumption) | rfl | (first | omega | (have z_ := unhid u23_; omega)) | trivial, by first | exact True.intro | with_reducible assumption | exact unhid (by with_reducible assumption) | rfl | (first | omega | (have z_ := unhid u23_; omega)) | trivial⟩⟩)⟩
          · skip
            obtain ⟨h213_0, h213_1, h213_2, h213_3, h213_4, h213_5, h213_6, h213_7, h213_8, h213_9⟩ := h213
            have w224 : dt214 79 2 = dt 79 2 := h213_4.trans w195
            have w225 : dt214 79 9 = dt 79 9 := h213_5.trans w196
            have w226 : dt214 79 10 = dt 79 10 := h213_6.trans w197
            have w227 : dt214 79 12 = dt 79 12 := h213_7.trans w199
            have w228 : dt214 79 17 = dt 79 17 := h213_8.trans w200
            have w229 : dt214 79 20 = dt 79 20 := h213_9.trans w201
            obtain ⟨j230, ej231, hc232⟩ := RSX_1 h213_0 (by decide)
            have hp233 : (gC (KF 1 b n) (VF b n) (j + 1)) i = gOk j230 := hp206.trans ((show (gE (KF 1 b n) (VF b n)) (j25 + 1) = gB ((gE (KF 1 b n) (VF b n)) (j25 + 1)) gOk by exact gB_id.symm).trans (by rw [ej231]; exact gB_0))
            have hi234 : j230 ≤ t := by have z := gE_M (K := (KF 1 b n)) (V := (VF b n)) (i := (j25 + 1)) hz; rw [ej231] at z; have y := z rfl; simp only at y; (first | omega | (have z_ := unhid u23_; omega))
            clear cr207 cb208 cd208 cv209 ck210
            have cr235 := hid (CUR_R hc232 (.inr rfl))
            have cd236 := CUR_d (hc232)
            have cb236 := hid (CUR_b hc232)
            have cv237 := hid (CUR_v hc232)
            have ck238 := hid (KZ_lt (i := j230) hz)
            have c1239 := (hc232).1
            have ci240 := hi234
            clear h213_4 w195 h213_5 w196 h213_6 h213_7 w199 h213_8 w200 h213_9 w201
            refine go_toq PM170 (k := 4) (pc' := 175) (L' := [some (.inr (.inr (some 79))), some (.inl 11)]) (st' := [.inl 0, .inl 11, .inr (.inr (some 79))]) (w' := (SH, dt214)) rfl ?_
            have u24_ := hid (And.intro (unhid c6) (And.intro (unhid c7) (And.intro (unhid cr235) (And.intro (unhid cb236) (And.intro (unhid cv237) (unhid ck238))))))
            refine go_callq PM170 PM163 (Q' := _) rfl rfl rfl rfl (sp_X6_lay_g L xs sio (d + 12) dt214 hI215  11 ⟨by decide, by decide⟩ 0 ⟨by decide, by decide⟩ (by first | exact True.intro | with_reducible assumption | exact unhid (by with_reducible assumption) | rfl | (first | omega | (have z_ := unhid u24_; omega)) | trivial)) ?_
            rintro _ _ ⟨dt242, rfl, hI243, hF244, h241⟩
            refine ⟨rfl, ?_⟩
            have hF245 : Fr [79, 84] dt dt242 := Fr_tr hF217 hF244 (by decide)
            rcases h241 with ⟨rfl, h241⟩
            obtain ⟨h241_0, h241_1, h241_2, h241_3, h241_4, h241_5, h241_6, h241_7, h241_8, h241_9, h241_10⟩ := h241
            have w246 : dt242 79 2 = dt 79 2 := h241_1.trans w224
            have w247 : dt242 79 9 = dt 79 9 := h241_2.trans w225
            have w248 : dt242 79 10 = dt 79 10 := h241_3.trans w226
            have w249 : dt242 79 12 = dt 79 12 := h241_4.trans w227
            have w250 : dt242 79 13 = dt214 79 13 := h241_5
            have w251 : dt242 79 14 = dt214 79 14 := h241_6
            have w252 : dt242 79 15 = dt214 79 15 := h241_7
            have w253 : dt242 79 16 = dt214 79 16 := h241_8
            have w254 : dt242 79 17 = dt 79 17 := h241_9.trans w228
            have w255 : dt242 79 20 = dt 79 20 := h241_10.trans w229
            have hc256 : CUR 1 b n dt242 j230 := CUR_sm hc232 (by first | with_reducible assumption | exact unhid (by with_reducible assumption) | rfl | (first | omega | (have z_ := unhid u24_; omega))) (by first | with_reducible assumption | exact unhid (by with_reducible assumption) | rfl | (first | omega | (have z_ := unhid u24_; omega))) (by first | with_reducible assumption | exact unhid (by with_reducible assumption) | rfl | (first | omega | (have z_ := unhid u24_; omega))) (by first | with_reducible assumption | exact unhid (by with_reducible assumption) | rfl | (first | omega | (have z_ := unhid u24_; omega)))
            clear h241_1 w224 h241_2 w225 h241_3 h241_4 w227 h241_5 h241_6 h241_7 h241_8 h241_9 w228 h241_10 w229
            refine go_retq PM170 (k := 1) (r := some (.inl 1)) (w1 := (SH, dt242)) rfl ?_
            exact ⟨dt242, rfl, hI243, hF245, (Or.inr ⟨rfl, ⟨by exact RSX_ok (hp233.trans (by rfl)) hc256, by first | exact True.intro | with_reducible assumption | exact unhid (by with_reducible assumption) | rfl | (first | omega | (have z_ := unhid u24_; omega)) | trivial, by first | exact True.intro | with_reducible assumption | exact unhid (by with_reducible assumption) | rfl | (first | omega | (have z_ := unhid u24_; omega)) | trivial, by exact (InvC_get (by assumption) 79 15 rfl rfl).2, by first | exact True.intro | with_reducible assumption | exact unhid (by with_reducible assumption) | rfl | (first | omega | (have z_ := unhid u24_; omega)) | trivial, by first | exact True.intro | with_reducible assumption | exact unhid (by with_reducible assumption) | rfl | (first | omega | (have z_ := unhid u24_; omega)) | trivial, by first | exact True.intro | with_reducible assumption | exact unhid (by with_reducible assumption) | rfl | (first | omega | (have z_ := unhid u24_; omega)) | trivial, by first | exact True.intro | with_reducible assumption | exact unhid (by with_reducible assumption) | rfl | (first | omega | (have z_ := unhid u24_; omega)) | trivial, by first | exact True.intro | with_reducible assumption | exact unhid (by with_reducible assumption) | rfl | (first | omega | (have z_ := unhid u24_; omega)) | trivial, by first | exact True.intro | with_reducible assumption | exact unhid (by with_reducible assumption) | rfl | (first | omega | (have z_ := unhid u24_; omega)) | trivial⟩⟩)⟩
    · skip
      refine go_toq PM170 (k := 1) (pc' := 55) (L' := [some (.inr (.inr (some 79))), none]) (st' := [.inr (.inr (some 79))]) (w' := (SH, dt)) rfl ?_
      refine go_callq PM170 PM164 (Q' := _) rfl rfl rfl rfl (sp_X6_opens_o L xs sio (d + 5) dt hI b n t i (by first | exact hbb | (rw [show dt 85 = dt 85 from funext (hF 85 (by decide)), show dt 79 12 = dt 79 12 by first | with_reducible assumption | exact unhid (by with_reducible assumption) | (first | omega | (have z_ := unhid u10_; omega))]; exact hbb)) (by first | with_reducible assumption | exact unhid (by with_reducible assumption) | exact Eq.trans (by with_reducible assumption) hnn | (first | omega | (have z_ := unhid u10_; omega))) hz ht hc hi hn5  (by first | exact True.intro | with_reducible assumption | exact unhid (by with_reducible assumption) | rfl | (first | omega | (have z_ := unhid u10_; omega)) | trivial) (by first | exact True.intro | with_reducible assumption | exact unhid (by with_reducible assumption) | rfl | (first | omega | (have z_ := unhid u10_; omega)) | trivial) (by first | exact True.intro | with_reducible assumption | exact unhid (by with_reducible assumption) | rfl | (first | omega | (have z_ := unhid u10_; omega)) | trivial)) ?_
      rintro _ _ ⟨dt258, rfl, hI259, hF260, h257⟩
      refine ⟨rfl, ?_⟩
      have hF261 : Fr [79, 84] dt dt258 := Fr_tr hF hF260 (by decide)
      rcases h257 with ⟨rfl, h257⟩
      obtain ⟨h257_0, h257_1, h257_2, h257_3, h257_4, h257_5, h257_6, h257_7, h257_8, h257_9⟩ := h257
      have w262 : dt258 79 2 = dt 79 2 := h257_4
      have w263 : dt258 79 9 = dt 79 9 := h257_5
      have w264 : dt258 79 10 = dt 79 10 := h257_6
      have w265 : dt258 79 11 = dt 79 11 := h257_7
      have w266 : dt258 79 12 = dt 79 12 := h257_8
      have w267 : dt258 79 17 = dt 79 17 := h257_9
      obtain ⟨j268, ej269, hc270⟩ := RSX_1 h257_0 (by decide)
      have hp271 : (gC (KF 1 b n) (VF b n) (j + 1)) i = (fun i => gB (gB_ (KF 1 b n) (VF b n) j i) (gK (KF 1 b n) 41)) j268 := (rfl : (gC (KF 1 b n) (VF b n) (j + 1)) i = (gC (KF 1 b n) (VF b n) (j + 1)) i).trans ((show (gC (KF 1 b n) (VF b n) (j + 1)) i = gB (gOp i) (fun i => gB (gB_ (KF 1 b n) (VF b n) j i) (gK (KF 1 b n) 41)) by exact gC_p (by (have z_ := unhid u10_; omega))).trans (by rw [ej269]; exact gB_0))
      have hi272 : j268 ≤ t := by have z : gOp i = (0, j268) := ej269; have y : i + 1 = j268 := congrArg Prod.snd z; (first | omega | (have z_ := unhid u10_; omega))
      clear cr0 cb0 cd0 cv0 ck0
      have cr273 := hid (CUR_R hc270 (.inr rfl))
      have cd274 := CUR_d (hc270)
      have cb274 := hid (CUR_b hc270)
      have cv275 := hid (CUR_v hc270)
      have ck276 := hid (KZ_lt (i := j268) hz)
      have c1277 := (hc270).1
      have ci278 := hi272
      clear h257_4 h257_5 h257_6 h257_7 h257_8 h257_9
      refine go_toq PM170 (k := 2) (pc' := 62) (L' := [some (.inr (.inr (some 79))), none]) (st' := [.inr (.inr (some 79))]) (w' := (SH, dt258)) rfl ?_
      have u25_ := hid (And.intro (unhid c6) (And.intro (unhid cr273) (And.intro (unhid cb274) (And.intro (unhid cv275) (unhid ck276)))))
      refine go_callq PM170 PM168 (Q' := _) rfl rfl rfl rfl (IH_X6_any L xs sio (d + 0) dt258 hI259 b n t j268 (by first | exact hbb | (rw [show dt258 85 = dt 85 from funext (hF261 85 (by decide)), show dt258 79 12 = dt 79 12 by first | with_reducible assumption | exact unhid (by with_reducible assumption) | (first | omega | (have z_ := unhid u25_; omega))]; exact hbb)) (by first | with_reducible assumption | exact unhid (by with_reducible assumption) | exact Eq.trans (by with_reducible assumption) hnn | (first | omega | (have z_ := unhid u25_; omega))) hz ht hc270 hi272 hn5  (by first | exact True.intro | with_reducible assumption | exact unhid (by with_reducible assumption) | rfl | (first | omega | (have z_ := unhid u25_; omega)) | trivial) (by first | exact True.intro | with_reducible assumption | exact unhid (by with_reducible assumption) | rfl | (first | omega | (have z_ := unhid u25_; omega)) | trivial) (by first | exact True.intro | with_reducible assumption | exact unhid (by with_reducible assumption) | rfl | (first | omega | (have z_ := unhid u25_; omega)) | trivial) (by first | exact True.intro | with_reducible assumption | exact unhid (by with_reducible assumption) | rfl | (first | omega | (have z_ := unhid u25_; omega)) | trivial)) ?_
      rintro _ _ ⟨dt280, rfl, hI281, hF282, h279⟩
      refine ⟨rfl, ?_⟩
      have hF283 : Fr [79, 84] dt dt280 := Fr_tr hF261 hF282 (by decide)
      rcases h279 with ⟨rfl, h279⟩ | ⟨rfl, h279⟩
      · skip
        obtain ⟨h279_0, h279_1, h279_2, h279_3, h279_4⟩ := h279
        have w284 : dt280 79 2 = dt 79 2 := h279_1.trans w262
        have w285 : dt280 79 9 = dt 79 9 := h279_2.trans w263
        have w286 : dt280 79 10 = dt 79 10 := h279_3.trans w264
        have w287 : dt280 79 12 = dt 79 12 := h279_4.trans w266
        have fl288 := RSX_0 h279_0 rfl
        have fe289 : (gC (KF 1 b n) (VF b n) (j + 1)) i = (gB_ (KF 1 b n) (VF b n) j) j268 := hp271.trans ((show (fun i => gB (gB_ (KF 1 b n) (VF b n) j i) (gK (KF 1 b n) 41)) j268 = gB ((gB_ (KF 1 b n) (VF b n) j) j268) (gK (KF 1 b n) 41) by rfl).trans (gB_no fl288.1))
        clear h279_1 w262 h279_2 w263 h279_3 h279_4 w266
        refine go_retq PM170 (k := 2) (r := some (.inl 0)) (w1 := (SH, dt280)) rfl ?_
        exact ⟨dt280, rfl, hI281, hF283, (Or.inl ⟨rfl, ⟨by first | exact RSX_f fe289 fl288 (by first | rfl | with_reducible assumption | exact unhid (by with_reducible assumption) | (first | omega | (have z_ := unhid u25_; omega))) (by first | rfl | with_reducible assumption | exact unhid (by with_reducible assumption) | (first | omega | (have z_ := unhid u25_; omega))) | exact RSX_no (k := 1) (j := j268) (hp271.trans (by show gR1 _ _ _ = _; unfold gR1; rw [if_neg (by (first | omega | (have z_ := unhid u25_; omega)))])) (by decide) (by (first | omega | (have z_ := unhid u25_; omega))) (by show _ = ((TP b n j268 : Nat) : Int); (first | omega | (have z_ := unhid u25_; omega))), by first | exact True.intro | with_reducible assumption | exact unhid (by with_reducible assumption) | rfl | (first | omega | (have z_ := unhid u25_; omega)) | trivial, by first | exact True.intro | with_reducible assumption | exact unhid (by with_reducible assumption) | rfl | (first | omega | (have z_ := unhid u25_; omega)) | trivial, by first | exact True.intro | with_reducible assumption | exact unhid (by with_reducible assumption) | rfl | (first | omega | (have z_ := unhid u25_; omega)) | trivial, by first | exact True.intro | with_reducible assumption | exact unhid (by with_reducible assumption) | rfl | (first | omega | (have z_ := unhid u25_; omega)) | trivial⟩⟩)⟩
      · skip
        obtain ⟨h279_0, h279_1, h279_2, h279_3, h279_4, h279_5, h279_6, h279_7, h279_8, h279_9⟩ := h279
        have w290 : dt280 79 2 = dt 79 2 := h279_4.trans w262
        have w291 : dt280 79 9 = dt 79 9 := h279_5.trans w263
        have w292 : dt280 79 10 = dt 79 10 := h279_6.trans w264
        have w293 : dt280 79 12 = dt 79 12 := h279_7.trans w266
        have w294 : dt280 79 17 = dt 79 17 := h279_8.trans w267
        have w295 : dt280 79 20 = dt258 79 20 := h279_9
        obtain ⟨j296, ej297, hc298⟩ := RSX_1 h279_0 (by decide)
        have hp299 : (gC (KF 1 b n) (VF b n) (j + 1)) i = (gK (KF 1 b n) 41) j296 := hp271.trans ((show (fun i => gB (gB_ (KF 1 b n) (VF b n) j i) (gK (KF 1 b n) 41)) j268 = gB ((gB_ (KF 1 b n) (VF b n) j) j268) (gK (KF 1 b n) 41) by rfl).trans (by rw [ej297]; exact gB_0))
        have hi300 : j296 ≤ t := by have z := gB__M (K := (KF 1 b n)) (V := (VF b n)) (d := j) (i := j268) hz; rw [ej297] at z; have y := z rfl; simp only at y; (first | omega | (have z_ := unhid u25_; omega))
        clear cr273 cb274 cd274 cv275 ck276
        have cr301 := hid (CUR_R hc298 (.inr rfl))
        have cd302 := CUR_d (hc298)
        have cb302 := hid (CUR_b hc298)
        have cv303 := hid (CUR_v hc298)
        have ck304 := hid (KZ_lt (i := j296) hz)
        have c1305 := (hc298).1
        have ci306 := hi300
        clear h279_4 w262 h279_5 w263 h279_6 h279_7 w266 h279_8 w267 h279_9
        refine go_toq PM170 (k := 3) (pc' := 72) (L' := [some (.inr (.inr (some 79))), none]) (st' := [.inl 141, .inr (.inr (some 79))]) (w' := (SH, dt280)) rfl ?_
        have u26_ := hid (And.intro (unhid c6) (And.intro (unhid cr301) (And.intro (unhid cb302) (And.intro (unhid cv303) (unhid ck304)))))
        refine go_callq PM170 PM161 (Q' := _) rfl rfl rfl rfl (sp_X6_need0_g1 L xs sio (d + 5) dt280 hI281 b n t j296 (by first | exact hbb | (rw [show dt280 85 = dt 85 from funext (hF283 85 (by decide)), show dt280 79 12 = dt 79 12 by first | with_reducible assumption | exact unhid (by with_reducible assumption) | (first | omega | (have z_ := unhid u26_; omega))]; exact hbb)) (by first | with_reducible assumption | exact unhid (by with_reducible assumption) | exact Eq.trans (by with_reducible assumption) hnn | (first | omega | (have z_ := unhid u26_; omega))) hz ht hc298 hi300 hn5 141 ⟨by decide, by decide⟩ (by first | exact True.intro | with_reducible assumption | exact unhid (by with_reducible assumption) | rfl | (first | omega | (have z_ := unhid u26_; omega)) | trivial)) ?_
        rintro _ _ ⟨dt308, rfl, hI309, hF310, h307⟩
        refine ⟨rfl, ?_⟩
        have hF311 : Fr [79, 84] dt dt308 := Fr_tr hF283 hF310 (by decide)
        rcases h307 with ⟨rfl, h307⟩ | ⟨rfl, h307⟩
        · skip
          obtain ⟨h307_0, h307_1, h307_2, h307_3, h307_4⟩ := h307
          have w312 : dt308 79 2 = dt 79 2 := h307_1.trans w290
          have w313 : dt308 79 9 = dt 79 9 := h307_2.trans w291
          have w314 : dt308 79 10 = dt 79 10 := h307_3.trans w292
          have w315 : dt308 79 12 = dt 79 12 := h307_4.trans w293
          have fl316 := RSX_0 h307_0 rfl
          have fe317 : (gC (KF 1 b n) (VF b n) (j + 1)) i = (gK (KF 1 b n) (141 - 100)) j296 := hp299.trans ((show (gK (KF 1 b n) 41) j296 = gB ((gK (KF 1 b n) (141 - 100)) j296) gOk by exact gB_id.symm).trans (gB_no fl316.1))
          clear h307_1 w290 h307_2 w291 h307_3 h307_4 w293
          refine go_retq PM170 (k := 2) (r := some (.inl 0)) (w1 := (SH, dt308)) rfl ?_
          exact ⟨dt308, rfl, hI309, hF311, (Or.inl ⟨rfl, ⟨by first | exact RSX_f fe317 fl316 (by first | rfl | with_reducible assumption | exact unhid (by with_reducible assumption) | (first | omega | (have z_ := unhid u26_; omega))) (by first | rfl | with_reducible assumption | exact unhid (by with_reducible assumption) | (first | omega | (have z_ := unhid u26_; omega))) | exact RSX_no (k := 1) (j := j296) (hp299.trans (by show gR1 _ _ _ = _; unfold gR1; rw [if_neg (by (first | omega | (have z_ := unhid u26_; omega)))])) (by decide) (by (first | omega | (have z_ := unhid u26_; omega))) (by show _ = ((TP b n j296 : Nat) : Int); (first | omega | (have z_ := unhid u26_; omega))), by first | exact True.intro | with_reducible assumption | exact unhid (by with_reducible assumption) | rfl | (first | omega | (have z_ := unhid u26_; omega)) | trivial, by first | exact True.intro | with_reducible assumption | exact unhid (by with_reducible assumption) | rfl | (first | omega | (have z_ := unhid u26_; omega)) | trivial, by first | exact True.intro | with_reducible assumption | exact unhid (by with_reducible assumption) | rfl | (first | omega | (have z_ := unhid u26_; omega)) | trivial, by first | exact True.intro | with_reducible assumption | exact unhid (by with_reducible assumption) | rfl | (first | omega | (have z_ := unhid u26_; omega)) | trivial⟩⟩)⟩
        · skip
          obtain ⟨h307_0, h307_1, h307_2, h307_3, h307_4, h307_5, h307_6, h307_7, h307_8, h307_9⟩ := h307
          have w318 : dt308 79 2 = dt 79 2 := h307_3.trans w290
          have w319 : dt308 79 9 = dt 79 9 := h307_4.trans w291
          have w320 : dt308 79 10 = dt 79 10 := h307_5.trans w292
          have w321 : dt308 79 11 = dt280 79 11 := h307_6
          have w322 : dt308 79 12 = dt 79 12 := h307_7.trans w293
          have w323 : dt308 79 17 = dt 79 17 := h307_8.trans w294
          have w324 : dt308 79 20 = dt258 79 20 := h307_9.trans w295
          obtain ⟨j325, ej326, hc327⟩ := RSX_1 h307_0 (by decide)
          have hp328 : (gC (KF 1 b n) (VF b n) (j + 1)) i = gOk j325 := hp299.trans ((show (gK (KF 1 b n) 41) j296 = gB ((gK (KF 1 b n) (141 - 100)) j296) gOk by exact gB_id.symm).trans (by rw [ej326]; exact gB_0))
          have hi329 : j325 ≤ t := by have z := (fun (h : KZ (KF 1 b n) t) => gK_M (K := (KF 1 b n)) (k := 141 - 100) (i := j296) h (by decide)) hz; rw [ej326] at z; have y := z rfl; simp only at y; (first | omega | (have z_ := unhid u26_; omega))
          clear cr301 cb302 cd302 cv303 ck304
          have cr330 := hid (CUR_R hc327 (.inr rfl))
          have cd331 := CUR_d (hc327)
          have cb331 := hid (CUR_b hc327)
          have cv332 := hid (CUR_v hc327)
          have ck333 := hid (KZ_lt (i := j325) hz)
          have c1334 := (hc327).1
          have ci335 := hi329
          clear h307_3 w290 h307_4 w291 h307_5 h307_6 h307_7 w293 h307_8 w294 h307_9 w295
          have r336 : 0 ≤ dt308 79 20 ∧ dt308 79 20 ≤ 8 := InvC_get hI309 79 20 rfl rfl
          refine go_toq PM170 (k := 6) (pc' := 87) (L' := [some (.inr (.inr (some 79))), none]) (st' := [.inl ((dt308 79 20) - 1), .inr (.inr (some 79))]) (w' := (SH, dt308)) rfl ?_
          have u27_ := hid (And.intro (unhid c6) (And.intro (unhid cr330) (And.intro (unhid cb331) (And.intro (unhid cv332) (unhid ck333)))))
          have hI337 : InvC (u2 dt308 79 20 ((dt308 79 20) - 1)) := InvC_u2 hI309 (lo := 0) (hi := 8) rfl rfl rfl (by (first | omega | (have z_ := unhid u27_; omega))) (by (first | omega | (have z_ := unhid u27_; omega)))
          have hF338 : Fr [79, 84] dt (u2 dt308 79 20 ((dt308 79 20) - 1)) := Fr_u2 hF311 (by decide)
          have w339 : (u2 dt308 79 20 ((dt308 79 20) - 1)) 79 2 = dt 79 2 := w318
          have w340 : (u2 dt308 79 20 ((dt308 79 20) - 1)) 79 9 = dt 79 9 := w319
          have w341 : (u2 dt308 79 20 ((dt308 79 20) - 1)) 79 10 = dt 79 10 := w320
          have w342 : (u2 dt308 79 20 ((dt308 79 20) - 1)) 79 11 = dt280 79 11 := w321
          have w343 : (u2 dt308 79 20 ((dt308 79 20) - 1)) 79 12 = dt 79 12 := w322
          have w344 : (u2 dt308 79 20 ((dt308 79 20) - 1)) 79 13 = dt308 79 13 := rfl
          have w345 : (u2 dt308 79 20 ((dt308 79 20) - 1)) 79 14 = dt308 79 14 := rfl
          have w346 : (u2 dt308 79 20 ((dt308 79 20) - 1)) 79 15 = dt308 79 15 := rfl
          have w347 : (u2 dt308 79 20 ((dt308 79 20) - 1)) 79 16 = dt308 79 16 := rfl
          have w348 : (u2 dt308 79 20 ((dt308 79 20) - 1)) 79 17 = dt 79 17 := w323
          have w349 : (u2 dt308 79 20 ((dt308 79 20) - 1)) 79 18 = dt308 79 18 := rfl
          have w350 : (u2 dt308 79 20 ((dt308 79 20) - 1)) 79 20 = (dt308 79 20) - 1 := rfl
          have hc351 : CUR 1 b n (u2 dt308 79 20 ((dt308 79 20) - 1)) j325 := CUR_sm hc327 rfl rfl rfl rfl
          refine go_smpq PM170 (L' := [some (.inr (.inr (some 79))), none]) (st' := []) (w' := (SH, (u2 dt308 79 20 ((dt308 79 20) - 1)))) rfl rfl (s_pf rfl rfl rfl rfl ⟨by (first | omega | (have z_ := unhid u27_; omega)), by (first | omega | (have z_ := unhid u27_; omega))⟩) ?_
          refine go_retq PM170 (k := 1) (r := some (.inl 1)) (w1 := (SH, (u2 dt308 79 20 ((dt308 79 20) - 1)))) rfl ?_
          exact ⟨(u2 dt308 79 20 ((dt308 79 20) - 1)), rfl, hI337, hF338, (Or.inr ⟨rfl, ⟨by exact RSX_ok (hp328.trans (by rfl)) hc351, by first | exact True.intro | with_reducible assumption | exact unhid (by with_reducible assumption) | rfl | (first | omega | (have z_ := unhid u27_; omega)) | trivial, by first | exact True.intro | with_reducible assumption | exact unhid (by with_reducible assumption) | rfl | (first | omega | (have z_ := unhid u27_; omega)) | trivial, by exact (InvC_get (by assumption) 79 15 rfl rfl).2, by first | exact True.intro | with_reducible assumption | exact unhid (by with_reducible assumption) | rfl | (first | omega | (have z_ := unhid u27_; omega)) | trivial, by first | exact True.intro | with_reducible assumption | exact unhid (by with_reducible assumption) | rfl | (first | omega | (have z_ := unhid u27_; omega)) | trivial, by first | exact True.intro | with_reducible assumption | exact unhid (by with_reducible assumption) | rfl | (first | omega | (have z_ := unhid u27_; omega)) | trivial, by first | exact True.intro | with_reducible assumption | exact unhid (by with_reducible assumption) | rfl | (first | omega | (have z_ := unhid u27_; omega)) | trivial, by first | exact True.intro | with_reducible assumption | exact unhid (by with_reducible assumption) | rfl | (first | omega | (have z_ := unhid u27_; omega)) | trivial, by first | exact True.intro | with_reducible assumption | exact unhid (by with_reducible assumption) | rfl | (first | omega | (have z_ := unhid u27_; omega)) | trivial⟩⟩)⟩
  · skip
    refine go_toq PM170 (k := 1) (pc' := 10) (L' := [some (.inr (.inr (some 79))), none]) (st' := [.inr (.inr (some 79))]) (w' := (SH, dt)) rfl ?_
    refine go_callq PM170 PM164 (Q' := _) rfl rfl rfl rfl (sp_X6_opens_o L xs sio (d + 5) dt hI b n t i (by first | exact hbb | (rw [show dt 85 = dt 85 from funext (hF 85 (by decide)), show dt 79 12 = dt 79 12 by first | with_reducible assumption | exact unhid (by with_reducible assumption) | (first | omega | (have z_ := unhid u9_; omega))]; exact hbb)) (by first | with_reducible assumption | exact unhid (by with_reducible assumption) | exact Eq.trans (by with_reducible assumption) hnn | (first | omega | (have z_ := unhid u9_; omega))) hz ht hc hi hn5  (by first | exact True.intro | with_reducible assumption | exact unhid (by with_reducible assumption) | rfl | (first | omega | (have z_ := unhid u9_; omega)) | trivial) (by first | exact True.intro | with_reducible assumption | exact unhid (by with_reducible assumption) | rfl | (first | omega | (have z_ := unhid u9_; omega)) | trivial) (by first | exact True.intro | with_reducible assumption | exact unhid (by with_reducible assumption) | rfl | (first | omega | (have z_ := unhid u9_; omega)) | trivial)) ?_
    rintro _ _ ⟨dt353, rfl, hI354, hF355, h352⟩
    refine ⟨rfl, ?_⟩
    have hF356 : Fr [79, 84] dt dt353 := Fr_tr hF hF355 (by decide)
    rcases h352 with ⟨rfl, h352⟩
    obtain ⟨h352_0, h352_1, h352_2, h352_3, h352_4, h352_5, h352_6, h352_7, h352_8, h352_9⟩ := h352
    have w357 : dt353 79 2 = dt 79 2 := h352_4
    have w358 : dt353 79 9 = dt 79 9 := h352_5
    have w359 : dt353 79 10 = dt 79 10 := h352_6
    have w360 : dt353 79 11 = dt 79 11 := h352_7
    have w361 : dt353 79 12 = dt 79 12 := h352_8
    have w362 : dt353 79 17 = dt 79 17 := h352_9
    obtain ⟨j363, ej364, hc365⟩ := RSX_1 h352_0 (by decide)
    have hp366 : (gC (KF 1 b n) (VF b n) (j + 1)) i = (gC (KF 1 b n) (VF b n) j) j363 := (rfl : (gC (KF 1 b n) (VF b n) (j + 1)) i = (gC (KF 1 b n) (VF b n) (j + 1)) i).trans ((show (gC (KF 1 b n) (VF b n) (j + 1)) i = gB (gOp i) (gC (KF 1 b n) (VF b n) j) by exact gC_n (by (have z_ := unhid u9_; omega))).trans (by rw [ej364]; exact gB_0))
    have hi367 : j363 ≤ t := by have z : gOp i = (0, j363) := ej364; have y : i + 1 = j363 := congrArg Prod.snd z; (first | omega | (have z_ := unhid u9_; omega))
    clear cr0 cb0 cd0 cv0 ck0
    have cr368 := hid (CUR_R hc365 (.inr rfl))
    have cd369 := CUR_d (hc365)
    have cb369 := hid (CUR_b hc365)
    have cv370 := hid (CUR_v hc365)
    have ck371 := hid (KZ_lt (i := j363) hz)
    have c1372 := (hc365).1
    have ci373 := hi367
    clear h352_4 h352_5 h352_6 h352_7 h352_8 h352_9
    refine go_toq PM170 (k := 2) (pc' := 17) (L' := [some (.inr (.inr (some 79))), none]) (st' := [.inr (.inr (some 79))]) (w' := (SH, dt353)) rfl ?_
    have u28_ := hid (And.intro (unhid cr368) (And.intro (unhid cb369) (And.intro (unhid cv370) (unhid ck371))))
    refine go_callq PM170 PM170 (Q' := _) rfl rfl rfl rfl (IH_X6_one L xs sio (d + 2) dt353 hI354 b n t j363 (by first | exact hbb | (rw [show dt353 85 = dt 85 from funext (hF356 85 (by decide)), show dt353 79 12 = dt 79 12 by first | with_reducible assumption | exact unhid (by with_reducible assumption) | (first | omega | (have z_ := unhid u28_; omega))]; exact hbb)) (by first | with_reducible assumption | exact unhid (by with_reducible assumption) | exact Eq.trans (by with_reducible assumption) hnn | (first | omega | (have z_ := unhid u28_; omega))) hz ht hc365 hi367 hn5  (by first | exact True.intro | with_reducible assumption | exact unhid (by with_reducible assumption) | rfl | (first | omega | (have z_ := unhid u28_; omega)) | trivial) (by first | exact True.intro | with_reducible assumption | exact unhid (by with_reducible assumption) | rfl | (first | omega | (have z_ := unhid u28_; omega)) | trivial) (by first | exact True.intro | with_reducible assumption | exact unhid (by with_reducible assumption) | rfl | (first | omega | (have z_ := unhid u28_; omega)) | trivial) (by first | exact True.intro | with_reducible assumption | exact unhid (by with_reducible assumption) | rfl | (first | omega | (have z_ := unhid u28_; omega)) | trivial)) ?_
    rintro _ _ ⟨dt375, rfl, hI376, hF377, h374⟩
    refine ⟨rfl, ?_⟩
    have hF378 : Fr [79, 84] dt dt375 := Fr_tr hF356 hF377 (by decide)
    rcases h374 with ⟨rfl, h374⟩ | ⟨rfl, h374⟩
    · skip
      obtain ⟨h374_0, h374_1, h374_2, h374_3, h374_4⟩ := h374
      have w379 : dt375 79 2 = dt 79 2 := h374_1.trans w357
      have w380 : dt375 79 9 = dt 79 9 := h374_2.trans w358
      have w381 : dt375 79 10 = dt 79 10 := h374_3.trans w359
      have w382 : dt375 79 12 = dt 79 12 := h374_4.trans w361
      have fl383 := RSX_0 h374_0 rfl
      have fe384 : (gC (KF 1 b n) (VF b n) (j + 1)) i = (gC (KF 1 b n) (VF b n) j) j363 := hp366.trans ((show (gC (KF 1 b n) (VF b n) j) j363 = gB ((gC (KF 1 b n) (VF b n) j) j363) gOk by exact gB_id.symm).trans (gB_no fl383.1))
      clear h374_1 w357 h374_2 w358 h374_3 h374_4 w361
      refine go_retq PM170 (k := 2) (r := some (.inl 0)) (w1 := (SH, dt375)) rfl ?_
      exact ⟨dt375, rfl, hI376, hF378, (Or.inl ⟨rfl, ⟨by first | exact RSX_f fe384 fl383 (by first | rfl | with_reducible assumption | exact unhid (by with_reducible assumption) | (first | omega | (have z_ := unhid u28_; omega))) (by first | rfl | with_reducible assumption | exact unhid (by with_reducible assumption) | (first | omega | (have z_ := unhid u28_; omega))) | exact RSX_no (k := 1) (j := j363) (hp366.trans (by show gR1 _ _ _ = _; unfold gR1; rw [if_neg (by (first | omega | (have z_ := unhid u28_; omega)))])) (by decide) (by (first | omega | (have z_ := unhid u28_; omega))) (by show _ = ((TP b n j363 : Nat) : Int); (first | omega | (have z_ := unhid u28_; omega))), by first | exact True.intro | with_reducible assumption | exact unhid (by with_reducible assumption) | rfl | (first | omega | (have z_ := unhid u28_; omega)) | trivial, by first | exact True.intro | with_reducible assumption | exact unhid (by with_reducible assumption) | rfl | (first | omega | (have z_ := unhid u28_; omega)) | trivial, by first | exact True.intro | with_reducible assumption | exact unhid (by with_reducible assumption) | rfl | (first | omega | (have z_ := unhid u28_; omega)) | trivial, by first | exact True.intro | with_reducible assumption | exact unhid (by with_reducible assumption) | rfl | (first | omega | (have z_ := unhid u28_; omega)) | trivial⟩⟩)⟩
    · skip
      obtain ⟨h374_0, h374_1, h374_2, h374_3, h374_4, h374_5, h374_6, h374_7, h374_8, h374_9⟩ := h374
      have w385 : dt375 79 2 = dt 79 2 := h374_4.trans w357
      have w386 : dt375 79 9 = dt 79 9 := h374_5.trans w358
      have w387 : dt375 79 10 = dt 79 10 := h374_6.trans w359
      have w388 : dt375 79 12 = dt 79 12 := h374_7.trans w361
      have w389 : dt375 79 17 = dt 79 17 := h374_8.trans w362
      have w390 : dt375 79 20 = dt353 79 20 := h374_9
      obtain ⟨j391, ej392, hc393⟩ := RSX_1 h374_0 (by decide)
      have hp394 : (gC (KF 1 b n) (VF b n) (j + 1)) i = gOk j391 := hp366.trans ((show (gC (KF 1 b n) (VF b n) j) j363 = gB ((gC (KF 1 b n) (VF b n) j) j363) gOk by exact gB_id.symm).trans (by rw [ej392]; exact gB_0))
      have hi395 : j391 ≤ t := by have z := (fun (h : KZ (KF 1 b n) t) => gC_M (K := (KF 1 b n)) (V := (VF b n)) h j j363) hz; rw [ej392] at z; have y := z rfl; simp only at y; (first | omega | (have z_ := unhid u28_; omega))
      clear cr368 cb369 cd369 cv370 ck371
      have cr396 := hid (CUR_R hc393 (.inr rfl))
      have cd397 := CUR_d (hc393)
      have cb397 := hid (CUR_b hc393)
      have cv398 := hid (CUR_v hc393)
      have ck399 := hid (KZ_lt (i := j391) hz)
      have c1400 := (hc393).1
      have ci401 := hi395
      clear h374_4 w357 h374_5 w358 h374_6 h374_7 w361 h374_8 w362 h374_9
      have r402 : 0 ≤ dt375 79 20 ∧ dt375 79 20 ≤ 8 := InvC_get hI376 79 20 rfl rfl
      refine go_toq PM170 (k := 6) (pc' := 32) (L' := [some (.inr (.inr (some 79))), none]) (st' := [.inl ((dt375 79 20) - 1), .inr (.inr (some 79))]) (w' := (SH, dt375)) rfl ?_
      have u29_ := hid (And.intro (unhid cr396) (And.intro (unhid cb397) (And.intro (unhid cv398) (unhid ck399))))
      have hI403 : InvC (u2 dt375 79 20 ((dt375 79 20) - 1)) := InvC_u2 hI376 (lo := 0) (hi := 8) rfl rfl rfl (by (first | omega | (have z_ := unhid u29_; omega))) (by (first | omega | (have z_ := unhid u29_; omega)))
      have hF404 : Fr [79, 84] dt (u2 dt375 79 20 ((dt375 79 20) - 1)) := Fr_u2 hF378 (by decide)
      have w405 : (u2 dt375 79 20 ((dt375 79 20) - 1)) 79 2 = dt 79 2 := w385
      have w406 : (u2 dt375 79 20 ((dt375 79 20) - 1)) 79 9 = dt 79 9 := w386
      have w407 : (u2 dt375 79 20 ((dt375 79 20) - 1)) 79 10 = dt 79 10 := w387
      have w408 : (u2 dt375 79 20 ((dt375 79 20) - 1)) 79 11 = dt375 79 11 := rfl
      have w409 : (u2 dt375 79 20 ((dt375 79 20) - 1)) 79 12 = dt 79 12 := w388
      have w410 : (u2 dt375 79 20 ((dt375 79 20) - 1)) 79 13 = dt375 79 13 := rfl
      have w411 : (u2 dt375 79 20 ((dt375 79 20) - 1)) 79 14 = dt375 79 14 := rfl
      have w412 : (u2 dt375 79 20 ((dt375 79 20) - 1)) 79 15 = dt375 79 15 := rfl
      have w413 : (u2 dt375 79 20 ((dt375 79 20) - 1)) 79 16 = dt375 79 16 := rfl
      have w414 : (u2 dt375 79 20 ((dt375 79 20) - 1)) 79 17 = dt 79 17 := w389
      have w415 : (u2 dt375 79 20 ((dt375 79 20) - 1)) 79 18 = dt375 79 18 := rfl
      have w416 : (u2 dt375 79 20 ((dt375 79 20) - 1)) 79 20 = (dt375 79 20) - 1 := rfl
      have hc417 : CUR 1 b n (u2 dt375 79 20 ((dt375 79 20) - 1)) j391 := CUR_sm hc393 rfl rfl rfl rfl
      refine go_smpq PM170 (L' := [some (.inr (.inr (some 79))), none]) (st' := []) (w' := (SH, (u2 dt375 79 20 ((dt375 79 20) - 1)))) rfl rfl (s_pf rfl rfl rfl rfl ⟨by (first | omega | (have z_ := unhid u29_; omega)), by (first | omega | (have z_ := unhid u29_; omega))⟩) ?_
      refine go_toq PM170 (k := 3) (pc' := 39) (L' := [some (.inr (.inr (some 79))), none]) (st' := [.inl 0, .inl 14, .inr (.inr (some 79))]) (w' := (SH, (u2 dt375 79 20 ((dt375 79 20) - 1)))) rfl ?_
      refine go_callq PM170 PM163 (Q' := _) rfl rfl rfl rfl (sp_X6_lay_g L xs sio (d + 12) (u2 dt375 79 20 ((dt375 79 20) - 1)) hI403  14 ⟨by decide, by decide⟩ 0 ⟨by decide, by decide⟩ (by first | exact True.intro | with_reducible assumption | exact unhid (by with_reducible assumption) | rfl | (first | omega | (have z_ := unhid u29_; omega)) | trivial)) ?_
      rintro _ _ ⟨dt419, rfl, hI420, hF421, h418⟩
      refine ⟨rfl, ?_⟩
      have hF422 : Fr [79, 84] dt dt419 := Fr_tr hF404 hF421 (by decide)
      rcases h418 with ⟨rfl, h418⟩
      obtain ⟨h418_0, h418_1, h418_2, h418_3, h418_4, h418_5, h418_6, h418_7, h418_8, h418_9, h418_10⟩ := h418
      have w423 : dt419 79 2 = dt 79 2 := h418_1.trans w405
      have w424 : dt419 79 9 = dt 79 9 := h418_2.trans w406
      have w425 : dt419 79 10 = dt 79 10 := h418_3.trans w407
      have w426 : dt419 79 12 = dt 79 12 := h418_4.trans w409
      have w427 : dt419 79 13 = dt375 79 13 := h418_5.trans w410
      have w428 : dt419 79 14 = dt375 79 14 := h418_6.trans w411
      have w429 : dt419 79 15 = dt375 79 15 := h418_7.trans w412
      have w430 : dt419 79 16 = dt375 79 16 := h418_8.trans w413
      have w431 : dt419 79 17 = dt 79 17 := h418_9.trans w414
      have w432 : dt419 79 20 = (dt375 79 20) - 1 := h418_10.trans w416
      have hc433 : CUR 1 b n dt419 j391 := CUR_sm hc417 (by first | with_reducible assumption | exact unhid (by with_reducible assumption) | rfl | (first | omega | (have z_ := unhid u29_; omega))) (by first | with_reducible assumption | exact unhid (by with_reducible assumption) | rfl | (first | omega | (have z_ := unhid u29_; omega))) (by first | with_reducible assumption | exact unhid (by with_reducible assumption) | rfl | (first | omega | (have z_ := unhid u29_; omega))) (by first | with_reducible assumption | exact unhid (by with_reducible assumption) | rfl | (first | omega | (have z_ := unhid u29_; omega)))
      clear h418_1 w405 h418_2 w406 h418_3 w407 h418_4 w409 h418_5 w410 h418_6 w411 h418_7 w412 h418_8 w413 h418_9 w414 h418_10 w416
      refine go_retq PM170 (k := 1) (r := some (.inl 1)) (w1 := (SH, dt419)) rfl ?_
      exact ⟨dt419, rfl, hI420, hF422, (Or.inr ⟨rfl, ⟨by exact RSX_ok (hp394.trans (by rfl)) hc433, by first | exact True.intro | with_reducible assumption | exact unhid (by with_reducible assumption) | rfl | (first | omega | (have z_ := unhid u29_; omega)) | trivial, by first | exact True.intro | with_reducible assumption | exact unhid (by with_reducible assumption) | rfl | (first | omega | (have z_ := unhid u29_; omega)) | trivial, by exact (InvC_get (by assumption) 79 15 rfl rfl).2, by first | exact True.intro | with_reducible assumption | exact unhid (by with_reducible assumption) | rfl | (first | omega | (have z_ := unhid u29_; omega)) | trivial, by first | exact True.intro | with_reducible assumption | exact unhid (by with_reducible assumption) | rfl | (first | omega | (have z_ := unhid u29_; omega)) | trivial, by first | exact True.intro | with_reducible assumption | exact unhid (by with_reducible assumption) | rfl | (first | omega | (have z_ := unhid u29_; omega)) | trivial, by first | exact True.intro | with_reducible assumption | exact unhid (by with_reducible assumption) | rfl | (first | omega | (have z_ := unhid u29_; omega)) | trivial, by first | exact True.intro | with_reducible assumption | exact unhid (by with_reducible assumption) | rfl | (first | omega | (have z_ := unhid u29_; omega)) | trivial, by first | exact True.intro | with_reducible assumption | exact unhid (by with_reducible assumption) | rfl | (first | omega | (have z_ := unhid u29_; omega)) | trivial⟩⟩)⟩
theorem lv_all_X6_one_g : ∀ j : Nat, (∀ (L : Nat) (xs : Nat → Int32) (sio : Option Nat) (d : Nat) (dt : Nat → Nat → Int) (hI : InvC dt) (b : Nat → Int) (n t i : Nat) (hbb : mB (dt 85) (dt 79 12) = b) (hnn : dt 79 12 = (n : Int)) (hz : KZ (KF 1 b n) t) (ht : t ≤ 500) (hc : CUR 1 b n dt i) (hi : i ≤ t) (hn5 : n ≤ 500) (h_p0 : dt 79 9 = 1) (h_p1 : dt 79 11 ≤ dt 79 15) (h_p2 : dt 79 20 + ((j : Nat) : Int) = 8) (h_p3 : 3 * j ≤ d), GO (am_XX L xs sio) (d + 10) 170 0 [some (.inr (.inr (some 79))), none] [] (SH, dt) (fun r w2 => ∃ dt2 : Nat → Nat → Int, w2 = (SH, dt2) ∧ InvC dt2 ∧ Fr [79, 84] dt dt2 ∧ ((r = some (.inl 0) ∧ (RSX 1 b n i dt2 0 ((gC (KF 1 b n) (VF b n) j) i)) ∧ (dt2 79 2 = dt 79 2) ∧ (dt2 79 9 = dt 79 9) ∧ (dt2 79 10 = dt 79 10) ∧ (dt2 79 12 = dt 79 12)) ∨ (r = some (.inl 1) ∧ (RSX 1 b n i dt2 1 ((gC (KF 1 b n) (VF b n) j) i)) ∧ (dt 79 15 + dt2 79 11 ≤ dt2 79 15 + dt 79 11) ∧ (dt 79 11 + 1 ≤ dt2 79 11) ∧ (dt2 79 15 ≤ 500) ∧ (dt2 79 2 = dt 79 2) ∧ (dt2 79 9 = dt 79 9) ∧ (dt2 79 10 = dt 79 10) ∧ (dt2 79 12 = dt 79 12) ∧ (dt2 79 17 = dt 79 17) ∧ (dt2 79 20 = dt 79 20))))) ∧ (∀ (L : Nat) (xs : Nat → Int32) (sio : Option Nat) (d : Nat) (dt : Nat → Nat → Int) (hI : InvC dt) (b : Nat → Int) (n t i : Nat) (hbb : mB (dt 85) (dt 79 12) = b) (hnn : dt 79 12 = (n : Int)) (hz : KZ (KF 1 b n) t) (ht : t ≤ 500) (hc : CUR 1 b n dt i) (hi : i ≤ t) (hn5 : n ≤ 500) (h_p0 : dt 79 9 = 1) (h_p1 : dt 79 11 ≤ dt 79 15) (h_p2 : dt 79 20 + ((j : Nat) : Int) = 8) (h_p3 : 3 * j ≤ d), GO (am_XX L xs sio) (d + 11) 169 0 [some (.inr (.inr (some 79)))] [] (SH, dt) (fun r w2 => ∃ dt2 : Nat → Nat → Int, w2 = (SH, dt2) ∧ InvC dt2 ∧ Fr [79, 84] dt dt2 ∧ ((r = some (.inl 0) ∧ (RSX 1 b n i dt2 0 ((gEv (KF 1 b n) (VF b n) j) i)) ∧ (dt2 79 2 = dt 79 2) ∧ (dt2 79 9 = dt 79 9) ∧ (dt2 79 10 = dt 79 10) ∧ (dt2 79 12 = dt 79 12)) ∨ (r = some (.inl 1) ∧ (RSX 1 b n i dt2 1 ((gEv (KF 1 b n) (VF b n) j) i)) ∧ (dt 79 15 + dt2 79 11 ≤ dt2 79 15 + dt 79 11) ∧ (dt 79 11 + 1 ≤ dt2 79 11) ∧ (dt2 79 15 ≤ 500) ∧ (dt2 79 2 = dt 79 2) ∧ (dt2 79 9 = dt 79 9) ∧ (dt2 79 10 = dt 79 10) ∧ (dt2 79 12 = dt 79 12) ∧ (dt2 79 17 = dt 79 17) ∧ (dt2 79 20 = dt 79 20))))) ∧ (∀ (L : Nat) (xs : Nat → Int32) (sio : Option Nat) (d : Nat) (dt : Nat → Nat → Int) (hI : InvC dt) (b : Nat → Int) (n t i : Nat) (hbb : mB (dt 85) (dt 79 12) = b) (hnn : dt 79 12 = (n : Int)) (hz : KZ (KF 1 b n) t) (ht : t ≤ 500) (hc : CUR 1 b n dt i) (hi : i ≤ t) (hn5 : n ≤ 500) (h_p0 : dt 79 9 = 1) (h_p1 : dt 79 11 ≤ dt 79 15) (h_p2 : dt 79 20 + ((j : Nat) : Int) = 8) (h_p3 : 3 * j ≤ d), GO (am_XX L xs sio) (d + 12) 168 0 [some (.inr (.inr (some 79)))] [] (SH, dt) (fun r w2 => ∃ dt2 : Nat → Nat → Int, w2 = (SH, dt2) ∧ InvC dt2 ∧ Fr [79, 84] dt dt2 ∧ ((r = some (.inl 0) ∧ (RSX 1 b n i dt2 0 ((gB_ (KF 1 b n) (VF b n) j) i)) ∧ (dt2 79 2 = dt 79 2) ∧ (dt2 79 9 = dt 79 9) ∧ (dt2 79 10 = dt 79 10) ∧ (dt2 79 12 = dt 79 12)) ∨ (r = some (.inl 1) ∧ (RSX 1 b n i dt2 1 ((gB_ (KF 1 b n) (VF b n) j) i)) ∧ (dt 79 15 + dt2 79 11 ≤ dt2 79 15 + dt 79 11) ∧ (dt 79 11 + 1 ≤ dt2 79 11) ∧ (dt2 79 15 ≤ 500) ∧ (dt2 79 2 = dt 79 2) ∧ (dt2 79 9 = dt 79 9) ∧ (dt2 79 10 = dt 79 10) ∧ (dt2 79 12 = dt 79 12) ∧ (dt2 79 17 = dt 79 17) ∧ (dt2 79 20 = dt 79 20)))))
  | 0 => by
    have g0 : ∀ (L : Nat) (xs : Nat → Int32) (sio : Option Nat) (d : Nat) (dt : Nat → Nat → Int) (hI : InvC dt) (b : Nat → Int) (n t i : Nat) (hbb : mB (dt 85) (dt 79 12) = b) (hnn : dt 79 12 = (n : Int)) (hz : KZ (KF 1 b n) t) (ht : t ≤ 500) (hc : CUR 1 b n dt i) (hi : i ≤ t) (hn5 : n ≤ 500) (h_p0 : dt 79 9 = 1) (h_p1 : dt 79 11 ≤ dt 79 15) (h_p2 : dt 79 20 + ((0 : Nat) : Int) = 8) (h_p3 : 3 * 0 ≤ d), GO (am_XX L xs sio) (d + 10) 170 0 [some (.inr (.inr (some 79))), none] [] (SH, dt) (fun r w2 => ∃ dt2 : Nat → Nat → Int, w2 = (SH, dt2) ∧ InvC dt2 ∧ Fr [79, 84] dt dt2 ∧ ((r = some (.inl 0) ∧ (RSX 1 b n i dt2 0 ((gC (KF 1 b n) (VF b n) 0) i)) ∧ (dt2 79 2 = dt 79 2) ∧ (dt2 79 9 = dt 79 9) ∧ (dt2 79 10 = dt 79 10) ∧ (dt2 79 12 = dt 79 12)) ∨ (r = some (.inl 1) ∧ (RSX 1 b n i dt2 1 ((gC (KF 1 b n) (VF b n) 0) i)) ∧ (dt 79 15 + dt2 79 11 ≤ dt2 79 15 + dt 79 11) ∧ (dt 79 11 + 1 ≤ dt2 79 11) ∧ (dt2 79 15 ≤ 500) ∧ (dt2 79 2 = dt 79 2) ∧ (dt2 79 9 = dt 79 9) ∧ (dt2 79 10 = dt 79 10) ∧ (dt2 79 12 = dt 79 12) ∧ (dt2 79 17 = dt 79 17) ∧ (dt2 79 20 = dt 79 20)))) := by
      intro z0 z1 z2 z3 z4 z5 z6 z7 z8 z9 z10 z11 z12 z13 z14 z15 z16 z17 z18 z19 z20
      exact sp_X6_one_g8 z0 z1 z2 z3 z4 z5 z6 z7 z8 z9 z10 z11 z12 z13 z14 z15 z16 z17 z18 (by omega)
    have g1 : ∀ (L : Nat) (xs : Nat → Int32) (sio : Option Nat) (d : Nat) (dt : Nat → Nat → Int) (hI : InvC dt) (b : Nat → Int) (n t i : Nat) (hbb : mB (dt 85) (dt 79 12) = b) (hnn : dt 79 12 = (n : Int)) (hz : KZ (KF 1 b n) t) (ht : t ≤ 500) (hc : CUR 1 b n dt i) (hi : i ≤ t) (hn5 : n ≤ 500) (h_p0 : dt 79 9 = 1) (h_p1 : dt 79 11 ≤ dt 79 15) (h_p2 : dt 79 20 + ((0 : Nat) : Int) = 8) (h_p3 : 3 * 0 ≤ d), GO (am_XX L xs sio) (d + 11) 169 0 [some (.inr (.inr (some 79)))] [] (SH, dt) (fun r w2 => ∃ dt2 : Nat → Nat → Int, w2 = (SH, dt2) ∧ InvC dt2 ∧ Fr [79, 84] dt dt2 ∧ ((r = some (.inl 0) ∧ (RSX 1 b n i dt2 0 ((gEv (KF 1 b n) (VF b n) 0) i)) ∧ (dt2 79 2 = dt 79 2) ∧ (dt2 79 9 = dt 79 9) ∧ (dt2 79 10 = dt 79 10) ∧ (dt2 79 12 = dt 79 12)) ∨ (r = some (.inl 1) ∧ (RSX 1 b n i dt2 1 ((gEv (KF 1 b n) (VF b n) 0) i)) ∧ (dt 79 15 + dt2 79 11 ≤ dt2 79 15 + dt 79 11) ∧ (dt 79 11 + 1 ≤ dt2 79 11) ∧ (dt2 79 15 ≤ 500) ∧ (dt2 79 2 = dt 79 2) ∧ (dt2 79 9 = dt 79 9) ∧ (dt2 79 10 = dt 79 10) ∧ (dt2 79 12 = dt 79 12) ∧ (dt2 79 17 = dt 79 17) ∧ (dt2 79 20 = dt 79 20)))) := fun z0 z1 z2 z3 z4 z5 z6 z7 z8 z9 z10 z11 z12 z13 z14 z15 z16 z17 z18 z19 z20 => lv_X6_every_g z0 z1 z2 z3 z4 z5 z6 z7 z8 z9 z10 z11 z12 z13 z14 z15 z16 0 g0 z17 z18 z19 z20
    have g2 : ∀ (L : Nat) (xs : Nat → Int32) (sio : Option Nat) (d : Nat) (dt : Nat → Nat → Int) (hI : InvC dt) (b : Nat → Int) (n t i : Nat) (hbb : mB (dt 85) (dt 79 12) = b) (hnn : dt 79 12 = (n : Int)) (hz : KZ (KF 1 b n) t) (ht : t ≤ 500) (hc : CUR 1 b n dt i) (hi : i ≤ t) (hn5 : n ≤ 500) (h_p0 : dt 79 9 = 1) (h_p1 : dt 79 11 ≤ dt 79 15) (h_p2 : dt 79 20 + ((0 : Nat) : Int) = 8) (h_p3 : 3 * 0 ≤ d), GO (am_XX L xs sio) (d + 12) 168 0 [some (.inr (.inr (some 79)))] [] (SH, dt) (fun r w2 => ∃ dt2 : Nat → Nat → Int, w2 = (SH, dt2) ∧ InvC dt2 ∧ Fr [79, 84] dt dt2 ∧ ((r = some (.inl 0) ∧ (RSX 1 b n i dt2 0 ((gB_ (KF 1 b n) (VF b n) 0) i)) ∧ (dt2 79 2 = dt 79 2) ∧ (dt2 79 9 = dt 79 9) ∧ (dt2 79 10 = dt 79 10) ∧ (dt2 79 12 = dt 79 12)) ∨ (r = some (.inl 1) ∧ (RSX 1 b n i dt2 1 ((gB_ (KF 1 b n) (VF b n) 0) i)) ∧ (dt 79 15 + dt2 79 11 ≤ dt2 79 15 + dt 79 11) ∧ (dt 79 11 + 1 ≤ dt2 79 11) ∧ (dt2 79 15 ≤ 500) ∧ (dt2 79 2 = dt 79 2) ∧ (dt2 79 9 = dt 79 9) ∧ (dt2 79 10 = dt 79 10) ∧ (dt2 79 12 = dt 79 12) ∧ (dt2 79 17 = dt 79 17) ∧ (dt2 79 20 = dt 79 20)))) := fun z0 z1 z2 z3 z4 z5 z6 z7 z8 z9 z10 z11 z12 z13 z14 z15 z16 z17 z18 z19 z20 => lv_X6_any_g z0 z1 z2 z3 z4 z5 z6 z7 z8 z9 z10 z11 z12 z13 z14 z15 z16 0 g1 z17 z18 z19 z20
    exact ⟨g0, g1, g2⟩
  | j + 1 => by
    obtain ⟨h_X6_one, h_X6_every, h_X6_any⟩ := lv_all_X6_one_g j
    have g0 : ∀ (L : Nat) (xs : Nat → Int32) (sio : Option Nat) (d : Nat) (dt : Nat → Nat → Int) (hI : InvC dt) (b : Nat → Int) (n t i : Nat) (hbb : mB (dt 85) (dt 79 12) = b) (hnn : dt 79 12 = (n : Int)) (hz : KZ (KF 1 b n) t) (ht : t ≤ 500) (hc : CUR 1 b n dt i) (hi : i ≤ t) (hn5 : n ≤ 500) (h_p0 : dt 79 9 = 1) (h_p1 : dt 79 11 ≤ dt 79 15) (h_p2 : dt 79 20 + (((j + 1) : Nat) : Int) = 8) (h_p3 : 3 * (j + 1) ≤ d), GO (am_XX L xs sio) (d + 10) 170 0 [some (.inr (.inr (some 79))), none] [] (SH, dt) (fun r w2 => ∃ dt2 : Nat → Nat → Int, w2 = (SH, dt2) ∧ InvC dt2 ∧ Fr [79, 84] dt dt2 ∧ ((r = some (.inl 0) ∧ (RSX 1 b n i dt2 0 ((gC (KF 1 b n) (VF b n) (j + 1)) i)) ∧ (dt2 79 2 = dt 79 2) ∧ (dt2 79 9 = dt 79 9) ∧ (dt2 79 10 = dt 79 10) ∧ (dt2 79 12 = dt 79 12)) ∨ (r = some (.inl 1) ∧ (RSX 1 b n i dt2 1 ((gC (KF 1 b n) (VF b n) (j + 1)) i)) ∧ (dt 79 15 + dt2 79 11 ≤ dt2 79 15 + dt 79 11) ∧ (dt 79 11 + 1 ≤ dt2 79 11) ∧ (dt2 79 15 ≤ 500) ∧ (dt2 79 2 = dt 79 2) ∧ (dt2 79 9 = dt 79 9) ∧ (dt2 79 10 = dt 79 10) ∧ (dt2 79 12 = dt 79 12) ∧ (dt2 79 17 = dt 79 17) ∧ (dt2 79 20 = dt 79 20)))) := by
      intro z0 z1 z2 z3 z4 z5 z6 z7 z8 z9 z10 z11 z12 z13 z14 z15 z16 z17 z18 z19 z20
      have y := lv_X6_one_g z0 z1 z2 (z3 - 3) z4 z5 z6 z7 z8 z9 z10 z11 z12 z13 z14 z15 z16 j h_X6_one h_X6_every h_X6_any z17 z18 z19 (by omega)
      rw [show z3 - 3 + 13 = z3 + 10 by first | with_reducible assumption | omega] at y
      exact y
    have g1 : ∀ (L : Nat) (xs : Nat → Int32) (sio : Option Nat) (d : Nat) (dt : Nat → Nat → Int) (hI : InvC dt) (b : Nat → Int) (n t i : Nat) (hbb : mB (dt 85) (dt 79 12) = b) (hnn : dt 79 12 = (n : Int)) (hz : KZ (KF 1 b n) t) (ht : t ≤ 500) (hc : CUR 1 b n dt i) (hi : i ≤ t) (hn5 : n ≤ 500) (h_p0 : dt 79 9 = 1) (h_p1 : dt 79 11 ≤ dt 79 15) (h_p2 : dt 79 20 + (((j + 1) : Nat) : Int) = 8) (h_p3 : 3 * (j + 1) ≤ d), GO (am_XX L xs sio) (d + 11) 169 0 [some (.inr (.inr (some 79)))] [] (SH, dt) (fun r w2 => ∃ dt2 : Nat → Nat → Int, w2 = (SH, dt2) ∧ InvC dt2 ∧ Fr [79, 84] dt dt2 ∧ ((r = some (.inl 0) ∧ (RSX 1 b n i dt2 0 ((gEv (KF 1 b n) (VF b n) (j + 1)) i)) ∧ (dt2 79 2 = dt 79 2) ∧ (dt2 79 9 = dt 79 9) ∧ (dt2 79 10 = dt 79 10) ∧ (dt2 79 12 = dt 79 12)) ∨ (r = some (.inl 1) ∧ (RSX 1 b n i dt2 1 ((gEv (KF 1 b n) (VF b n) (j + 1)) i)) ∧ (dt 79 15 + dt2 79 11 ≤ dt2 79 15 + dt 79 11) ∧ (dt 79 11 + 1 ≤ dt2 79 11) ∧ (dt2 79 15 ≤ 500) ∧ (dt2 79 2 = dt 79 2) ∧ (dt2 79 9 = dt 79 9) ∧ (dt2 79 10 = dt 79 10) ∧ (dt2 79 12 = dt 79 12) ∧ (dt2 79 17 = dt 79 17) ∧ (dt2 79 20 = dt 79 20)))) := fun z0 z1 z2 z3 z4 z5 z6 z7 z8 z9 z10 z11 z12 z13 z14 z15 z16 z17 z18 z19 z20 => lv_X6_every_g z0 z1 z2 z3 z4 z5 z6 z7 z8 z9 z10 z11 z12 z13 z14 z15 z16 (j + 1) g0 z17 z18 z19 z20
    have g2 : ∀ (L : Nat) (xs : Nat → Int32) (sio : Option Nat) (d : Nat) (dt : Nat → Nat → Int) (hI : InvC dt) (b : Nat → Int) (n t i : Nat) (hbb : mB (dt 85) (dt 79 12) = b) (hnn : dt 79 12 = (n : Int)) (hz : KZ (KF 1 b n) t) (ht : t ≤ 500) (hc : CUR 1 b n dt i) (hi : i ≤ t) (hn5 : n ≤ 500) (h_p0 : dt 79 9 = 1) (h_p1 : dt 79 11 ≤ dt 79 15) (h_p2 : dt 79 20 + (((j + 1) : Nat) : Int) = 8) (h_p3 : 3 * (j + 1) ≤ d), GO (am_XX L xs sio) (d + 12) 168 0 [some (.inr (.inr (some 79)))] [] (SH, dt) (fun r w2 => ∃ dt2 : Nat → Nat → Int, w2 = (SH, dt2) ∧ InvC dt2 ∧ Fr [79, 84] dt dt2 ∧ ((r = some (.inl 0) ∧ (RSX 1 b n i dt2 0 ((gB_ (KF 1 b n) (VF b n) (j + 1)) i)) ∧ (dt2 79 2 = dt 79 2) ∧ (dt2 79 9 = dt 79 9) ∧ (dt2 79 10 = dt 79 10) ∧ (dt2 79 12 = dt 79 12)) ∨ (r = some (.inl 1) ∧ (RSX 1 b n i dt2 1 ((gB_ (KF 1 b n) (VF b n) (j + 1)) i)) ∧ (dt 79 15 + dt2 79 11 ≤ dt2 79 15 + dt 79 11) ∧ (dt 79 11 + 1 ≤ dt2 79 11) ∧ (dt2 79 15 ≤ 500) ∧ (dt2 79 2 = dt 79 2) ∧ (dt2 79 9 = dt 79 9) ∧ (dt2 79 10 = dt 79 10) ∧ (dt2 79 12 = dt 79 12) ∧ (dt2 79 17 = dt 79 17) ∧ (dt2 79 20 = dt 79 20)))) := fun z0 z1 z2 z3 z4 z5 z6 z7 z8 z9 z10 z11 z12 z13 z14 z15 z16 z17 z18 z19 z20 => lv_X6_any_g z0 z1 z2 z3 z4 z5 z6 z7 z8 z9 z10 z11 z12 z13 z14 z15 z16 (j + 1) g1 z17 z18 z19 z20
    exact ⟨g0, g1, g2⟩
theorem sp_X6_any_g0 (L : Nat) (xs : Nat → Int32) (sio : Option Nat) (d : Nat) (dt : Nat → Nat → Int) (hI : InvC dt) (b : Nat → Int) (n t i : Nat) (hbb : mB (dt 85) (dt 79 12) = b) (hnn : dt 79 12 = (n : Int)) (hz : KZ (KF 1 b n) t) (ht : t ≤ 500) (hc : CUR 1 b n dt i) (hi : i ≤ t) (hn5 : n ≤ 500) (h_p0 : dt 79 9 = 1) (h_p1 : dt 79 11 ≤ dt 79 15) (h_p2 : dt 79 20 = 0) : GO (am_XX L xs sio) (d + 36) 168 0 [some (.inr (.inr (some 79)))] [] (SH, dt) (fun r w2 => ∃ dt2 : Nat → Nat → Int, w2 = (SH, dt2) ∧ InvC dt2 ∧ Fr [79, 84] dt dt2 ∧ ((r = some (.inl 0) ∧ (RSX 1 b n i dt2 0 ((gB_ (KF 1 b n) (VF b n) 8) i)) ∧ (dt2 79 2 = dt 79 2) ∧ (dt2 79 9 = dt 79 9) ∧ (dt2 79 10 = dt 79 10) ∧ (dt2 79 12 = dt 79 12)) ∨ (r = some (.inl 1) ∧ (RSX 1 b n i dt2 1 ((gB_ (KF 1 b n) (VF b n) 8) i)) ∧ (dt 79 15 + dt2 79 11 ≤ dt2 79 15 + dt 79 11) ∧ (dt 79 11 + 1 ≤ dt2 79 11) ∧ (dt2 79 15 ≤ 500) ∧ (dt2 79 2 = dt 79 2) ∧ (dt2 79 9 = dt 79 9) ∧ (dt2 79 10 = dt 79 10) ∧ (dt2 79 12 = dt 79 12) ∧ (dt2 79 17 = dt 79 17) ∧ (dt2 79 20 = dt 79 20)))) := (lv_all_X6_one_g 8).2.2 L xs sio (d + 24) dt hI b n t i hbb hnn hz ht hc hi hn5 h_p0 h_p1 (by omega) (by omega)
