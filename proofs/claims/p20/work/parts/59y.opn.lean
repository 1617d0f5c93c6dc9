set_option maxHeartbeats 1500000 in
set_option maxRecDepth 20000 in
theorem sp_X6_opens_x (L : Nat) (xs : Nat → Int32) (sio : Option Nat) (d : Nat) (dt : Nat → Nat → Int) (hI : InvC dt) (b : Nat → Int) (n t i : Nat) (hbb : mB (dt 85) (dt 79 12) = b) (hnn : dt 79 12 = (n : Int)) (hz : KZ (KF 1 b n) t) (ht : t ≤ 500) (hc : CUR 1 b n dt i) (hi : i ≤ t) (hn5 : n ≤ 500)  (h_p0 : dt 79 9 = 1) (h_p1 : ¬ dt 79 14 = 0) (h_p2 : dt 79 20 = 8) : GO (am_XX L xs sio) (d + 7) 164 0 [some (.inr (.inr (some 79)))] [] (SH, dt) (fun r w2 => ∃ dt2 : Nat → Nat → Int, w2 = (SH, dt2) ∧ InvC dt2 ∧ Fr [79] dt dt2 ∧ ((r = some (.inl 0) ∧ (RSX 1 b n i dt2 0 (g3 i)) ∧ (dt2 79 2 = dt 79 2) ∧ (dt2 79 9 = dt 79 9) ∧ (dt2 79 10 = dt 79 10) ∧ (dt2 79 12 = dt 79 12)))) := by
  replace h_p1 := hid h_p1
  have hF : Fr [79] dt dt := Fr_refl
  have r1 : 0 ≤ dt 79 15 ∧ dt 79 15 ≤ 500 := InvC_get hI 79 15 rfl rfl
  have r2 : 0 ≤ dt 79 11 ∧ dt 79 11 ≤ 510 := InvC_get hI 79 11 rfl rfl
  have r3 : 0 ≤ dt 79 10 ∧ dt 79 10 ≤ 24 := InvC_get hI 79 10 rfl rfl
  have r4 : 0 ≤ dt 79 20 ∧ dt 79 20 ≤ 8 := InvC_get hI 79 20 rfl rfl
  have cr0 := hid (CUR_R hc (.inr rfl))
  have cd0 := CUR_d (hc)
  have cb0 := hid (CUR_b hc)
  have cv0 := hid (CUR_v hc)
  have ck0 := hid (KZ_lt (i := i) hz)
  have c10 := hc.1
  refine go_ifq PM164 (k := 3) (p1 := 15) (p2 := 9) (L' := [some (.inr (.inr (some 79)))]) (st' := []) (w' := (SH, dt)) rfl (c_ne (a := dt 79 20) (b := 8) (by first | exact bnd r4 (by decide) (by decide) | exact ⟨by fail, by fail⟩) ⟨by decide, by decide⟩) (fun c5 => ?_) (fun c5 => ?_)
  · skip
    have qc5 : dt 79 20 ≤ 7 := by omega
    replace c5 := hid c5
    exfalso; omega
  · skip
    refine go_toq PM164 (k := 2) (pc' := 11) (L' := [some (.inr (.inr (some 79)))]) (st' := [.inl 3, .inr (.inr (some 79))]) (w' := (SH, dt)) rfl ?_
    refine go_callq PM164 PM160 (Q' := _) rfl rfl rfl rfl (sp_X6_bad_g L xs sio (d + 6) dt hI  3 ⟨by decide, by decide⟩ ) ?_
    rintro _ _ ⟨dt7, rfl, hI8, hF9, h6⟩
    refine ⟨rfl, ?_⟩
    have hF10 : Fr [79] dt dt7 := Fr_tr hF hF9 (by decide)
    rcases h6 with ⟨rfl, h6⟩
    obtain ⟨h6_0, h6_1, h6_2, h6_3, h6_4, h6_5, h6_6, h6_7, h6_8, h6_9, h6_10, h6_11⟩ := h6
    have w11 : dt7 79 2 = dt 79 2 := h6_2
    have w12 : dt7 79 9 = dt 79 9 := h6_3
    have w13 : dt7 79 10 = dt 79 10 := h6_4
    have w14 : dt7 79 11 = dt 79 11 := h6_5
    have w15 : dt7 79 12 = dt 79 12 := h6_6
    have w16 : dt7 79 13 = dt 79 13 := h6_7
    have w17 : dt7 79 14 = dt 79 14 := h6_8
    have w18 : dt7 79 15 = dt 79 15 := h6_9
    have w19 : dt7 79 16 = dt 79 16 := h6_10
    have w20 : dt7 79 20 = dt 79 20 := h6_11
    have hc21 : CUR 1 b n dt7 i := CUR_sm hc (by first | with_reducible assumption | exact unhid (by with_reducible assumption) | rfl | fail) (by first | with_reducible assumption | exact unhid (by with_reducible assumption) | rfl | fail) (by first | with_reducible assumption | exact unhid (by with_reducible assumption) | rfl | fail) (by first | with_reducible assumption | exact unhid (by with_reducible assumption) | rfl | fail)
    clear h6_2 h6_3 h6_4 h6_5 h6_6 h6_7 h6_8 h6_9 h6_10 h6_11
    refine go_retq PM164 (k := 0) (r := some (.inl 0)) (w1 := (SH, dt7)) rfl ?_
    exact ⟨dt7, rfl, hI8, hF10, ⟨rfl, ⟨by exact RSX_no (k := 3) (j := i) rfl (by decide) (by omega) (by show _ = ((TP b n i : Nat) : Int); omega), by first | exact True.intro | with_reducible assumption | exact unhid (by with_reducible assumption) | rfl | fail | trivial, by first | exact True.intro | with_reducible assumption | exact unhid (by with_reducible assumption) | rfl | fail | trivial, by first | exact True.intro | with_reducible assumption | exact unhid (by with_reducible assumption) | rfl | fail | trivial, by first | exact True.intro | with_reducible assumption | exact unhid (by with_reducible assumption) | rfl | fail | trivial⟩⟩⟩
set_option maxHeartbeats 1500000 in
set_option maxRecDepth 20000 in
theorem sp_X6_opens_o (L : Nat) (xs : Nat → Int32) (sio : Option Nat) (d : Nat) (dt : Nat → Nat → Int) (hI : InvC dt) (b : Nat → Int) (n t i : Nat) (hbb : mB (dt 85) (dt 79 12) = b) (hnn : dt 79 12 = (n : Int)) (hz : KZ (KF 1 b n) t) (ht : t ≤ 500) (hc : CUR 1 b n dt i) (hi : i ≤ t) (hn5 : n ≤ 500)  (h_p0 : dt 79 9 = 1) (h_p1 : ¬ dt 79 14 = 0) (h_p2 : dt 79 20 ≤ 7) : GO (am_XX L xs sio) (d + 7) 164 0 [some (.inr (.inr (some 79)))] [] (SH, dt) (fun r w2 => ∃ dt2 : Nat → Nat → Int, w2 = (SH, dt2) ∧ InvC dt2 ∧ Fr [79] dt dt2 ∧ ((r = some (.inl 1) ∧ (RSX 1 b n i dt2 1 (gOp i)) ∧ (dt2 79 20 = dt 79 20 + 1) ∧ (dt 79 15 + 1 ≤ dt2 79 15) ∧ (dt2 79 15 ≤ 500) ∧ (dt2 79 2 = dt 79 2) ∧ (dt2 79 9 = dt 79 9) ∧ (dt2 79 10 = dt 79 10) ∧ (dt2 79 11 = dt 79 11) ∧ (dt2 79 12 = dt 79 12) ∧ (dt2 79 17 = dt 79 17)))) := by
  replace h_p1 := hid h_p1
  have hF : Fr [79] dt dt := Fr_refl
  have r1 : 0 ≤ dt 79 15 ∧ dt 79 15 ≤ 500 := InvC_get hI 79 15 rfl rfl
  have r2 : 0 ≤ dt 79 11 ∧ dt 79 11 ≤ 510 := InvC_get hI 79 11 rfl rfl
  have r3 : 0 ≤ dt 79 10 ∧ dt 79 10 ≤ 24 := InvC_get hI 79 10 rfl rfl
  have r4 : 0 ≤ dt 79 20 ∧ dt 79 20 ≤ 8 := InvC_get hI 79 20 rfl rfl
  have cr0 := hid (CUR_R hc (.inr rfl))
  have cd0 := CUR_d (hc)
  have cb0 := hid (CUR_b hc)
  have cv0 := hid (CUR_v hc)
  have ck0 := hid (KZ_lt (i := i) hz)
  have c10 := hc.1
  refine go_ifq PM164 (k := 3) (p1 := 15) (p2 := 9) (L' := [some (.inr (.inr (some 79)))]) (st' := []) (w' := (SH, dt)) rfl (c_ne (a := dt 79 20) (b := 8) (by first | exact bnd r4 (by decide) (by decide) | exact ⟨by fail, by fail⟩) ⟨by decide, by decide⟩) (fun c5 => ?_) (fun c5 => ?_)
  · skip
    have qc5 : dt 79 20 ≤ 7 := by omega
    replace c5 := hid c5
    refine go_toq PM164 (k := 5) (pc' := 22) (L' := [some (.inr (.inr (some 79)))]) (st' := [.inl ((dt 79 20) + 1), .inr (.inr (some 79))]) (w' := (SH, dt)) rfl ?_
    have u3_ := hid (And.intro (unhid h_p1) (And.intro (unhid cr0) (And.intro (unhid cb0) (And.intro (unhid cv0) (And.intro (unhid ck0) (unhid c5))))))
    have hI6 : InvC (u2 dt 79 20 ((dt 79 20) + 1)) := InvC_u2 hI (lo := 0) (hi := 8) rfl rfl rfl (by omega) (by omega)
    have hF7 : Fr [79] dt (u2 dt 79 20 ((dt 79 20) + 1)) := Fr_u2 hF (by decide)
    have w8 : (u2 dt 79 20 ((dt 79 20) + 1)) 79 2 = dt 79 2 := rfl
    have w9 : (u2 dt 79 20 ((dt 79 20) + 1)) 79 9 = dt 79 9 := rfl
    have w10 : (u2 dt 79 20 ((dt 79 20) + 1)) 79 10 = dt 79 10 := rfl
    have w11 : (u2 dt 79 20 ((dt 79 20) + 1)) 79 11 = dt 79 11 := rfl
    have w12 : (u2 dt 79 20 ((dt 79 20) + 1)) 79 12 = dt 79 12 := rfl
    have w13 : (u2 dt 79 20 ((dt 79 20) + 1)) 79 13 = dt 79 13 := rfl
    have w14 : (u2 dt 79 20 ((dt 79 20) + 1)) 79 14 = dt 79 14 := rfl
    have w15 : (u2 dt 79 20 ((dt 79 20) + 1)) 79 15 = dt 79 15 := rfl
    have w16 : (u2 dt 79 20 ((dt 79 20) + 1)) 79 16 = dt 79 16 := rfl
    have w17 : (u2 dt 79 20 ((dt 79 20) + 1)) 79 17 = dt 79 17 := rfl
    have w18 : (u2 dt 79 20 ((dt 79 20) + 1)) 79 18 = dt 79 18 := rfl
    have w19 : (u2 dt 79 20 ((dt 79 20) + 1)) 79 20 = (dt 79 20) + 1 := rfl
    have hc20 : CUR 1 b n (u2 dt 79 20 ((dt 79 20) + 1)) i := CUR_sm hc rfl rfl rfl rfl
    refine go_smpq PM164 (L' := [some (.inr (.inr (some 79)))]) (st' := []) (w' := (SH, (u2 dt 79 20 ((dt 79 20) + 1)))) rfl rfl (s_pf rfl rfl rfl rfl (by first | exact bndp r4 (by decide) (by decide) | exact ⟨by fail, by fail⟩)) ?_
    refine go_toq PM164 (k := 1) (pc' := 26) (L' := [some (.inr (.inr (some 79)))]) (st' := [.inr (.inr (some 79))]) (w' := (SH, (u2 dt 79 20 ((dt 79 20) + 1)))) rfl ?_
    refine go_callq PM164 PM159 (Q' := _) rfl rfl rfl rfl (sp_X6_next0_p1 L xs sio (d + 0) (u2 dt 79 20 ((dt 79 20) + 1)) hI6   (by first | exact True.intro | with_reducible assumption | exact unhid (by with_reducible assumption) | rfl | omega | trivial) (by first | exact True.intro | with_reducible assumption | exact unhid (by with_reducible assumption) | rfl | omega | trivial)) ?_
    rintro _ _ ⟨dt22, rfl, hI23, hF24, h21⟩
    refine ⟨rfl, ?_⟩
    have hF25 : Fr [79] dt dt22 := Fr_tr hF7 hF24 (by decide)
    rcases h21 with ⟨rfl, h21⟩
    obtain ⟨h21_0, h21_1, h21_2, h21_3, h21_4, h21_5, h21_6, h21_7, h21_8⟩ := h21
    have w26 : dt22 79 2 = dt 79 2 := h21_2.trans w8
    have w27 : dt22 79 9 = dt 79 9 := h21_3.trans w9
    have w28 : dt22 79 10 = dt 79 10 := h21_4.trans w10
    have w29 : dt22 79 11 = dt 79 11 := h21_5.trans w11
    have w30 : dt22 79 12 = dt 79 12 := h21_6.trans w12
    have w31 : dt22 79 17 = dt 79 17 := h21_7.trans w17
    have w32 : dt22 79 20 = (dt 79 20) + 1 := h21_8.trans w19
    have hq33 := h21_0
    rw [show (u2 dt 79 20 ((dt 79 20) + 1)) 85 = dt 85 from funext (hF7 85 (by decide)), show (u2 dt 79 20 ((dt 79 20) + 1)) 79 12 = dt 79 12 by first | with_reducible assumption | exact unhid (by with_reducible assumption) | fail, hbb, show (dt 79 12).toNat = n from (congrArg Int.toNat hnn).trans (Int.toNat_natCast n)] at hq33
    have hc34 : CUR 1 b n dt22 (i + 1) := CUR_n hc20 hq33
    have hi35 : i + 1 ≤ t := by (have z_ := unhid u3_; omega)
    have av36 : (u2 dt 79 20 ((dt 79 20) + 1)) 79 15 + 1 ≤ (u2 dt 79 20 ((dt 79 20) + 1)) 79 13 := by (have z_ := unhid u3_; omega)
    have hp37 : gOp i = gOk (i + 1) := (rfl : gOp i = gOp i).trans (by rfl)
    clear cr0 cb0 cd0 cv0 ck0
    have cr38 := hid (CUR_R hc34 (.inr rfl))
    have cd39 := CUR_d (hc34)
    have cb39 := hid (CUR_b hc34)
    have cv40 := hid (CUR_v hc34)
    have ck41 := hid (KZ_lt (i := (i + 1)) hz)
    have c142 := (hc34).1
    have ci43 := hi35
    clear h21_2 w8 h21_3 w9 h21_4 w10 h21_5 w11 h21_6 w12 h21_7 w17 h21_8 w19
    refine go_retq PM164 (k := 1) (r := some (.inl 1)) (w1 := (SH, dt22)) rfl ?_
    exact ⟨dt22, rfl, hI23, hF25, ⟨rfl, ⟨by exact RSX_ok hp37 hc34, by first | exact True.intro | with_reducible assumption | exact unhid (by with_reducible assumption) | rfl | fail | trivial, by first | exact True.intro | with_reducible assumption | exact unhid (by with_reducible assumption) | rfl | omega | trivial, by exact (InvC_get (by assumption) 79 15 rfl rfl).2, by first | exact True.intro | with_reducible assumption | exact unhid (by with_reducible assumption) | rfl | fail | trivial, by first | exact True.intro | with_reducible assumption | exact unhid (by with_reducible assumption) | rfl | fail | trivial, by first | exact True.intro | with_reducible assumption | exact unhid (by with_reducible assumption) | rfl | fail | trivial, by first | exact True.intro | with_reducible assumption | exact unhid (by with_reducible assumption) | rfl | fail | trivial, by first | exact True.intro | with_reducible assumption | exact unhid (by with_reducible assumption) | rfl | fail | trivial, by first | exact True.intro | with_reducible assumption | exact unhid (by with_reducible assumption) | rfl | fail | trivial⟩⟩⟩
  · skip
    exfalso; omega
