theorem sp_X1_readScene_f (L : Nat) (xs : Nat → Int32) (sio : Option Nat) (d : Nat) (dt : Nat → Nat → Int) (hI : InvC dt) (K V S : Nat → Int) (t : Nat) (hz : KZ K t) (ht : t ≤ 500)  (h_p0 : TKc K V S t dt) (h_p1 : 0 ≤ dt 35 8 ∧ dt 35 8 ≤ (t : Int)) (h_p2 : ¬ dt 35 2 = 0 → dt 35 8 = (t : Int)) (h_p3 : dt 35 2 = 0) (h_p4 : dt 35 3 = -1) (h_p5 : dt 35 8 = 0) : GO (am_XX L xs sio) (d + 4) 25 0 [some (.inr (.inr (some 35))), none, none, none] [] (SH, dt) (fun r w2 => ∃ dt2 : Nat → Nat → Int, w2 = (SH, dt2) ∧ InvC dt2 ∧ Fr [35, 40] dt dt2 ∧ ((∃ v : Int, r = some (.inl v) ∧ (0 ≤ v ∧ v ≤ 24) ∧ (TXE S (gX K V 0 600 0 0) dt2 v) ∧ (0 ≤ dt2 35 8 ∧ dt2 35 8 ≤ (t : Int)) ∧ (dt2 35 2 = 0 → ∀ q : Nat, (q : Int) < v → AE (dt2 40 q) (K (gpos K V q) - 1000) V (gpos K V q + 1)) ∧ (dt2 35 1 = dt 35 1) ∧ (dt2 35 7 = dt 35 7)))) := by
  have hF : Fr [35, 40] dt dt := Fr_refl
  have h7 : dt 35 7 = (t : Int) + 1 := h_p0.1
  have hk0 := TKc_k h_p0 h_p1
  have hv0 := TKc_v h_p0 h_p1
  have hs0 := TKc_s h_p0 h_p1
  refine go_toq PM25 (k := 4) (pc' := 4) (L' := [some (.inr (.inr (some 35))), some (.inl 0), some (.inl 0), none]) (st' := []) (w' := (SH, dt)) rfl ?_
  have loop82 : ∀ (k_ : Nat) (l4_1 : Int) (l4_2 : Int) (dt68 : Nat → Nat → Int) (hI69 : InvC dt68) (hF70 : Fr [35, 40] dt dt68) (i71 : 0 ≤ l4_1 ∧ l4_1 ≤ 24) (i72 : 0 ≤ l4_2 ∧ l4_2 ≤ 501) (i73 : TX K V S t 0 (gX K V 0 600 0 0) dt68 l4_1) (i74 : l4_2 ≤ dt68 35 8) (i75 : 0 ≤ dt68 35 8 ∧ dt68 35 8 ≤ (t : Int)) (i76 : ¬ dt68 35 2 = 0 → dt68 35 8 = (t : Int)) (i77 : dt68 35 7 = dt 35 7) (i78 : dt68 35 1 = dt 35 1) (i79 : POSI K V dt68 l4_1) (i80 : dt68 35 1 = dt 35 1) (i81 : dt68 35 7 = dt 35 7), (502 - l4_2).toNat < k_ → GO (am_XX L xs sio) (d + 4) 25 4 [some (.inr (.inr (some 35))), some (.inl l4_1), some (.inl l4_2), none] [] (SH, dt68) (fun r w2 => ∃ dt2 : Nat → Nat → Int, w2 = (SH, dt2) ∧ InvC dt2 ∧ Fr [35, 40] dt dt2 ∧ ((∃ v : Int, r = some (.inl v) ∧ (0 ≤ v ∧ v ≤ 24) ∧ (TXE S (gX K V 0 600 0 0) dt2 v) ∧ (0 ≤ dt2 35 8 ∧ dt2 35 8 ≤ (t : Int)) ∧ (dt2 35 2 = 0 → ∀ q : Nat, (q : Int) < v → AE (dt2 40 q) (K (gpos K V q) - 1000) V (gpos K V q + 1)) ∧ (dt2 35 1 = dt 35 1) ∧ (dt2 35 7 = dt 35 7)))) := by
    intro k_
    induction k_ with
    | zero => intro l4_1 l4_2 dt68 hI69 hF70 i71 i72 i73 i74 i75 i76 i77 i78 i79 i80 i81 hm; exact absurd hm (Nat.not_lt_zero _)
    | succ k_ ih_loop82 =>
      intro l4_1 l4_2 dt68 hI69 hF70 i71 i72 i73 i74 i75 i76 i77 i78 i79 i80 i81 hm
      have qTX := i73
      have qPO := i79
      refine go_ifq PM25 (k := 2) (p1 := 95) (p2 := 11) (L' := [some (.inr (.inr (some 35))), some (.inl l4_1), some (.inl l4_2), none]) (st' := []) (w' := (SH, dt68)) rfl (c_gt (a := l4_2) (b := 500) (by first | exact bnd i72 (by decide) (by decide) | exact ⟨by omega, by omega⟩) ⟨by decide, by decide⟩) (fun c83 => ?_) (fun c83 => ?_)
      · skip
        refine go_retq PM25 (k := 1) (r := some (.inl l4_1)) (w1 := (SH, dt68)) rfl ?_
        exact ⟨dt68, rfl, hI69, hF70, ⟨_, rfl, (by first | exact bnd i71 (by decide) (by decide) | exact ⟨by omega, by omega⟩), ⟨by exact TX_e qTX hz (by omega) (by omega) (by omega) (fun hl => by omega), by first | exact True.intro | assumption | rfl | omega | trivial, by exact fun z_ => (qPO z_).2, by first | exact True.intro | assumption | rfl | omega | trivial, by first | exact True.intro | assumption | rfl | omega | trivial⟩⟩⟩
      · skip
        refine go_toq PM25 (k := 1) (pc' := 12) (L' := [some (.inr (.inr (some 35))), some (.inl l4_1), some (.inl l4_2), none]) (st' := [.inr (.inr (some 35))]) (w' := (SH, dt68)) rfl ?_
        refine go_callq PM25 PM20 (Q' := _) rfl rfl rfl rfl (sp_X1_token_f L xs sio (d + 3) dt68 hI69 K V S t hz ht  (by first | assumption | exact TKc_fr h_p0 hF70 (by decide) (by decide) (by decide) (by omega) | omega) (by first | assumption | exact TKc_fr h_p0 hF70 (by decide) (by decide) (by decide) (by omega) | omega) (by first | assumption | exact TKc_fr h_p0 hF70 (by decide) (by decide) (by decide) (by omega) | omega)) ?_
        rintro _ _ ⟨rfl, h84⟩
        refine ⟨rfl, ?_⟩
        rcases h84 with ⟨v_h84, rfl, h84r, h84⟩
        refine go_ifq PM25 (k := 0) (p1 := 95) (p2 := 18) (L' := [some (.inr (.inr (some 35))), some (.inl l4_1), some (.inl l4_2), none]) (st' := []) (w' := (SH, dt68)) rfl (z_eq (a := v_h84) (by first | exact bnd h84r (by decide) (by decide) | exact ⟨by omega, by omega⟩)) (fun c85 => ?_) (fun c85 => ?_)
        · skip
          refine go_retq PM25 (k := 1) (r := some (.inl l4_1)) (w1 := (SH, dt68)) rfl ?_
          exact ⟨dt68, rfl, hI69, hF70, ⟨_, rfl, (by first | exact bnd i71 (by decide) (by decide) | exact ⟨by omega, by omega⟩), ⟨by exact TX_e qTX hz (by omega) (by omega) (by omega) (fun hl => by omega), by first | exact True.intro | assumption | rfl | omega | trivial, by exact fun z_ => (qPO z_).2, by first | exact True.intro | assumption | rfl | omega | trivial, by first | exact True.intro | assumption | rfl | omega | trivial⟩⟩⟩
        · skip
          refine go_toq PM25 (k := 1) (pc' := 19) (L' := [some (.inr (.inr (some 35))), some (.inl l4_1), some (.inl l4_2), none]) (st' := [.inr (.inr (some 35))]) (w' := (SH, dt68)) rfl ?_
          refine go_callq PM25 PM20 (Q' := _) rfl rfl rfl rfl (sp_X1_token_f L xs sio (d + 3) dt68 hI69 K V S t hz ht  (by first | assumption | exact TKc_fr h_p0 hF70 (by decide) (by decide) (by decide) (by omega) | omega) (by first | assumption | exact TKc_fr h_p0 hF70 (by decide) (by decide) (by decide) (by omega) | omega) (by first | assumption | exact TKc_fr h_p0 hF70 (by decide) (by decide) (by decide) (by omega) | omega)) ?_
          rintro _ _ ⟨rfl, h86⟩
          refine ⟨rfl, ?_⟩
          rcases h86 with ⟨v_h86, rfl, h86r, h86⟩
          refine go_ifq PM25 (k := 4) (p1 := 37) (p2 := 31) (L' := [some (.inr (.inr (some 35))), some (.inl l4_1), some (.inl l4_2), some (.inl (v_h86 - 1000))]) (st' := []) (w' := (SH, dt68)) rfl (z_lt (a := v_h86 - 1000) ⟨by omega, by omega⟩) (fun c87 => ?_) (fun c87 => ?_)
          · skip
            refine go_toq PM25 (k := 2) (pc' := 39) (L' := [some (.inr (.inr (some 35))), some (.inl l4_1), some (.inl l4_2), some (.inl (v_h86 - 1000))]) (st' := [.inl 1, .inr (.inr (some 35))]) (w' := (SH, dt68)) rfl ?_
            refine go_callq PM25 PM21 (Q' := _) rfl rfl rfl rfl (sp_X1_fail_f L xs sio (d + 3) dt68 hI69 K V S t hz ht 1 ⟨by decide, by decide⟩ (by first | assumption | exact TKc_fr h_p0 hF70 (by decide) (by decide) (by decide) (by omega) | omega) (by first | assumption | exact TKc_fr h_p0 hF70 (by decide) (by decide) (by decide) (by omega) | omega) (by first | assumption | exact TKc_fr h_p0 hF70 (by decide) (by decide) (by decide) (by omega) | omega)) ?_
            rintro _ _ ⟨dt89, rfl, hI90, hF91, h88⟩
            refine ⟨rfl, ?_⟩
            have hF92 : Fr [35, 40] dt dt89 := Fr_tr hF70 hF91 (by decide)
            rcases h88 with ⟨rfl, h88⟩
            obtain ⟨h88_0, h88_1, h88_2, h88_3, h88_4⟩ := h88
            have lv93 := KLIVE hz (D := dt68) (by omega) (by omega) (by omega)
            have TX94 := TX_no (c' := l4_1) qTX (KLIVE hz (D := dt68) (by omega) (by omega) (by omega)).1 h88_0 (by decide) (by rw [gX_u hz (by omega) (by omega), if_neg (by omega)]; first | (rw [if_pos rfl, if_pos (by omega)]; done) | (rw [if_neg (by decide), if_pos (by omega)]; done))
            have PO95 : POSI K V dt89 l4_1 := POSI_no h88_2
            refine go_toq PM25 (k := 3) (pc' := 4) (L' := [some (.inr (.inr (some 35))), some (.inl l4_1), some (.inl (l4_2 + 1)), some (.inl (v_h86 - 1000))]) (st' := []) (w' := (SH, dt89)) rfl ?_
            exact GO.le (ih_loop82 l4_1 (l4_2 + 1) dt89 hI90 hF92 (by first | omega | exact TX94 | exact TX_0 (by omega) (by omega) (by omega) | exact PO95 | exact POSI_0 (by omega)) (by first | omega | exact TX94 | exact TX_0 (by omega) (by omega) (by omega) | exact PO95 | exact POSI_0 (by omega)) (by first | exact TX94 | exact TX_0 (by omega) (by omega) (by omega)) (by first | omega | exact TX94 | exact TX_0 (by omega) (by omega) (by omega) | exact PO95 | exact POSI_0 (by omega)) (by first | omega | exact TX94 | exact TX_0 (by omega) (by omega) (by omega) | exact PO95 | exact POSI_0 (by omega)) (by first | omega | exact TX94 | exact TX_0 (by omega) (by omega) (by omega) | exact PO95 | exact POSI_0 (by omega)) (by first | omega | exact TX94 | exact TX_0 (by omega) (by omega) (by omega) | exact PO95 | exact POSI_0 (by omega)) (by first | omega | exact TX94 | exact TX_0 (by omega) (by omega) (by omega) | exact PO95 | exact POSI_0 (by omega)) (by first | exact PO95 | exact POSI_0 (by omega)) (by first | omega | exact TX94 | exact TX_0 (by omega) (by omega) (by omega) | exact PO95 | exact POSI_0 (by omega)) (by first | omega | exact TX94 | exact TX_0 (by omega) (by omega) (by omega) | exact PO95 | exact POSI_0 (by omega)) (by omega)) ⟨.inl rfl, .inl rfl, .inl rfl, .inr ⟨rfl, trivial⟩, trivial⟩
          · skip
            refine go_ifq PM25 (k := 2) (p1 := 45) (p2 := 37) (L' := [some (.inr (.inr (some 35))), some (.inl l4_1), some (.inl l4_2), some (.inl (v_h86 - 1000))]) (st' := []) (w' := (SH, dt68)) rfl (c_le (a := v_h86 - 1000) (b := 8) ⟨by omega, by omega⟩ ⟨by decide, by decide⟩) (fun c96 => ?_) (fun c96 => ?_)
            · skip
              refine go_ifq PM25 (k := 2) (p1 := 59) (p2 := 51) (L' := [some (.inr (.inr (some 35))), some (.inl l4_1), some (.inl l4_2), some (.inl (v_h86 - 1000))]) (st' := []) (w' := (SH, dt68)) rfl (c_lt (a := l4_1) (b := 24) (by first | exact bnd i71 (by decide) (by decide) | exact ⟨by omega, by omega⟩) ⟨by decide, by decide⟩) (fun c97 => ?_) (fun c97 => ?_)
              · skip
                refine go_toq PM25 (k := 5) (pc' := 66) (L' := [some (.inr (.inr (some 35))), some (.inl l4_1), some (.inl l4_2), some (.inl (v_h86 - 1000))]) (st' := [.inl ((dt68 35 8) + 1), .inr (.inr (some 35))]) (w' := (SH, dt68)) rfl ?_
                have hI98 : InvC (u2 dt68 35 8 ((dt68 35 8) + 1)) := InvC_u2 hI69 (lo := -2147483648) (hi := 2147483647) rfl rfl rfl (by omega) (by omega)
                have hF99 : Fr [35, 40] dt (u2 dt68 35 8 ((dt68 35 8) + 1)) := Fr_u2 hF70 (by decide)
                have w100 : (u2 dt68 35 8 ((dt68 35 8) + 1)) 35 1 = dt68 35 1 := rfl
                have w101 : (u2 dt68 35 8 ((dt68 35 8) + 1)) 35 2 = dt68 35 2 := rfl
                have w102 : (u2 dt68 35 8 ((dt68 35 8) + 1)) 35 3 = dt68 35 3 := rfl
                have w103 : (u2 dt68 35 8 ((dt68 35 8) + 1)) 35 7 = dt68 35 7 := rfl
                have w104 : (u2 dt68 35 8 ((dt68 35 8) + 1)) 35 8 = (dt68 35 8) + 1 := rfl
                have lv105 := KLIVE hz (D := dt68) (by omega) (by omega) (by omega)
                refine go_smpq PM25 (L' := [some (.inr (.inr (some 35))), some (.inl l4_1), some (.inl l4_2), some (.inl (v_h86 - 1000))]) (st' := []) (w' := (SH, (u2 dt68 35 8 ((dt68 35 8) + 1)))) rfl rfl (s_pf rfl rfl rfl rfl ⟨by omega, by omega⟩) ?_
                refine go_toq PM25 (k := 5) (pc' := 76) (L' := [some (.inr (.inr (some 35))), some (.inl l4_1), some (.inl l4_2), some (.inl (v_h86 - 1000))]) (st' := [.inl (v_h86 - 1000), .inr (.inr (some 35)), .inl l4_1, .inr (.inr (some 40))]) (w' := (SH, (u2 dt68 35 8 ((dt68 35 8) + 1)))) rfl ?_
                refine go_callq PM25 PM26 (Q' := _) rfl rfl rfl rfl (sp_X1_readAct_f L xs sio (d + 0) (u2 dt68 35 8 ((dt68 35 8) + 1)) hI98 K V S t hz ht (v_h86 - 1000) ⟨by omega, by omega⟩ (by first | assumption | exact TKc_fr h_p0 hF99 (by decide) (by decide) (by decide) (by omega) | omega) (by first | assumption | exact TKc_fr h_p0 hF99 (by decide) (by decide) (by decide) (by omega) | omega) (by first | assumption | exact TKc_fr h_p0 hF99 (by decide) (by decide) (by decide) (by omega) | omega)) ?_
                rintro _ _ ⟨dt107, rfl, hI108, hF109, h106⟩
                refine ⟨rfl, ?_⟩
                have hF110 : Fr [35, 40] dt dt107 := Fr_tr hF99 hF109 (by decide)
                rcases h106 with ⟨v_h106, rfl, h106r, h106⟩
                obtain ⟨h106_0, h106_1, h106_2, h106_3, h106_4, h106_5, h106_6⟩ := h106
                have k4111 : ∀ j : Nat, dt107 40 j = dt68 40 j := fun j => hF109 40 (by decide) j
                have X112 : PX S t (gAct K V (v_h86 - 1000)) (gK K 59) (u2 dt68 35 8 ((dt68 35 8) + 1)) dt107 := PX_st PX_0 h106_0 (fun hl => rfl)
                have hI113 : InvC (u2 dt107 40 (l4_1).toNat v_h106) := InvC_u2 hI108 (lo := -2147483648) (hi := 2147483647) rfl rfl rfl (by first | exact bnd1 h106r (by decide) | omega) (by first | exact bnd2 h106r (by decide) | omega)
                have hF114 : Fr [35, 40] dt (u2 dt107 40 (l4_1).toNat v_h106) := Fr_u2 hF110 (by decide)
                have w115 : (u2 dt107 40 (l4_1).toNat v_h106) 35 1 = dt107 35 1 := rfl
                have w116 : (u2 dt107 40 (l4_1).toNat v_h106) 35 2 = dt107 35 2 := rfl
                have w117 : (u2 dt107 40 (l4_1).toNat v_h106) 35 3 = dt107 35 3 := rfl
                have w118 : (u2 dt107 40 (l4_1).toNat v_h106) 35 7 = dt107 35 7 := rfl
                have w119 : (u2 dt107 40 (l4_1).toNat v_h106) 35 8 = dt107 35 8 := rfl
                have k4120 : (u2 dt107 40 (l4_1).toNat v_h106) 40 (l4_1).toNat = v_h106 := u2_eq
                have k4121 : ∀ j : Nat, (j : Int) < l4_1 → (u2 dt107 40 (l4_1).toNat v_h106) 40 j = dt68 40 j := fun j hj => (u2_ne (by omega)).trans (k4111 j)
                have X122 : PX S t (gAct K V (v_h86 - 1000)) (gK K 59) (u2 dt68 35 8 ((dt68 35 8) + 1)) (u2 dt107 40 (l4_1).toNat v_h106) := PX_sm X112 rfl rfl rfl
                refine go_smpq PM25 (L' := [some (.inr (.inr (some 35))), some (.inl l4_1), some (.inl l4_2), some (.inl (v_h86 - 1000))]) (st' := []) (w' := (SH, (u2 dt107 40 (l4_1).toNat v_h106))) rfl rfl (s_iast (n := 24) rfl ⟨by omega, by omega⟩ ⟨by omega, by omega⟩) ?_
                refine go_toq PM25 (k := 2) (pc' := 83) (L' := [some (.inr (.inr (some 35))), some (.inl l4_1), some (.inl l4_2), some (.inl (v_h86 - 1000))]) (st' := [.inl 59, .inr (.inr (some 35))]) (w' := (SH, (u2 dt107 40 (l4_1).toNat v_h106))) rfl ?_
                refine go_callq PM25 PM22 (Q' := _) rfl rfl rfl rfl (sp_X1_skip_f L xs sio (d + 2) (u2 dt107 40 (l4_1).toNat v_h106) hI113 K V S t hz ht 59 ⟨by decide, by decide⟩ (by first | assumption | exact TKc_fr h_p0 hF114 (by decide) (by decide) (by decide) (by omega) | omega) (by first | assumption | exact TKc_fr h_p0 hF114 (by decide) (by decide) (by decide) (by omega) | omega) (by first | assumption | exact TKc_fr h_p0 hF114 (by decide) (by decide) (by decide) (by omega) | omega)) ?_
                rintro _ _ ⟨dt124, rfl, hI125, hF126, h123⟩
                refine ⟨rfl, ?_⟩
                have hF127 : Fr [35, 40] dt dt124 := Fr_tr hF114 hF126 (by decide)
                rcases h123 with ⟨rfl, h123⟩
                obtain ⟨h123_0, h123_1, h123_2, h123_3, h123_4, h123_5⟩ := h123
                have X128 : PX S t (gAct K V (v_h86 - 1000)) gOk (u2 dt68 35 8 ((dt68 35 8) + 1)) dt124 := PX_st X122 h123_0 (fun hl => gB_id.symm)
                have k4129 := (hF126 40 (by decide) _).trans k4120
                have k4130 : ∀ j : Nat, (j : Int) < l4_1 → dt124 40 j = dt68 40 j := fun j hj => (hF126 40 (by decide) j).trans (k4121 j hj)
                have PO131 := POSI_s qPO lv105.1 (by omega) (by omega) (by omega) (by omega) (show K (dt68 35 8).toNat - 1000 = v_h86 - 1000 by omega) (PX_e X128 (by omega)) (fun z_ => h106_4 ((SPX_at h123_0 (by omega) (by omega) (fun _ y_ => gK_at y_)) z_).1) k4129 k4130
                have TX132 := TX_st qTX lv105.1 (by omega) (by omega) (PX_e X128 (by omega)) (by rw [gX_u hz (by omega) (by omega), if_neg (by omega), if_pos rfl, if_neg (by omega), if_neg (by omega), show K (dt68 35 8).toNat - 1000 = v_h86 - 1000 by first | assumption | omega, show (dt68 35 8).toNat + 1 = ((u2 dt68 35 8 ((dt68 35 8) + 1)) 35 8).toNat by first | assumption | omega])
                refine go_toq PM25 (k := 3) (pc' := 4) (L' := [some (.inr (.inr (some 35))), some (.inl (l4_1 + 1)), some (.inl (l4_2 + 1)), some (.inl (v_h86 - 1000))]) (st' := []) (w' := (SH, dt124)) rfl ?_
                exact GO.le (ih_loop82 (l4_1 + 1) (l4_2 + 1) dt124 hI125 hF127 (by first | omega | exact TX132 | exact TX_0 (by omega) (by omega) (by omega) | exact PO131 | exact POSI_0 (by omega)) (by first | omega | exact TX132 | exact TX_0 (by omega) (by omega) (by omega) | exact PO131 | exact POSI_0 (by omega)) (by first | exact TX132 | exact TX_0 (by omega) (by omega) (by omega)) (by first | omega | exact TX132 | exact TX_0 (by omega) (by omega) (by omega) | exact PO131 | exact POSI_0 (by omega)) (by first | omega | exact TX132 | exact TX_0 (by omega) (by omega) (by omega) | exact PO131 | exact POSI_0 (by omega)) (by first | omega | exact TX132 | exact TX_0 (by omega) (by omega) (by omega) | exact PO131 | exact POSI_0 (by omega)) (by first | omega | exact TX132 | exact TX_0 (by omega) (by omega) (by omega) | exact PO131 | exact POSI_0 (by omega)) (by first | omega | exact TX132 | exact TX_0 (by omega) (by omega) (by omega) | exact PO131 | exact POSI_0 (by omega)) (by first | exact PO131 | exact POSI_0 (by omega)) (by first | omega | exact TX132 | exact TX_0 (by omega) (by omega) (by omega) | exact PO131 | exact POSI_0 (by omega)) (by first | omega | exact TX132 | exact TX_0 (by omega) (by omega) (by omega) | exact PO131 | exact POSI_0 (by omega)) (by omega)) ⟨.inl rfl, .inl rfl, .inl rfl, .inr ⟨rfl, trivial⟩, trivial⟩
              · skip
                refine go_toq PM25 (k := 2) (pc' := 53) (L' := [some (.inr (.inr (some 35))), some (.inl l4_1), some (.inl l4_2), some (.inl (v_h86 - 1000))]) (st' := [.inl 3, .inr (.inr (some 35))]) (w' := (SH, dt68)) rfl ?_
                refine go_callq PM25 PM21 (Q' := _) rfl rfl rfl rfl (sp_X1_fail_f L xs sio (d + 3) dt68 hI69 K V S t hz ht 3 ⟨by decide, by decide⟩ (by first | assumption | exact TKc_fr h_p0 hF70 (by decide) (by decide) (by decide) (by omega) | omega) (by first | assumption | exact TKc_fr h_p0 hF70 (by decide) (by decide) (by decide) (by omega) | omega) (by first | assumption | exact TKc_fr h_p0 hF70 (by decide) (by decide) (by decide) (by omega) | omega)) ?_
                rintro _ _ ⟨dt134, rfl, hI135, hF136, h133⟩
                refine ⟨rfl, ?_⟩
                have hF137 : Fr [35, 40] dt dt134 := Fr_tr hF70 hF136 (by decide)
                rcases h133 with ⟨rfl, h133⟩
                obtain ⟨h133_0, h133_1, h133_2, h133_3, h133_4⟩ := h133
                have lv138 := KLIVE hz (D := dt68) (by omega) (by omega) (by omega)
                have TX139 := TX_no (c' := l4_1) qTX (KLIVE hz (D := dt68) (by omega) (by omega) (by omega)).1 h133_0 (by decide) (by rw [gX_u hz (by omega) (by omega), if_neg (by omega)]; first | (rw [if_pos rfl, if_neg (by omega), if_pos (by omega)]; done) | (rw [if_neg (by decide), if_neg (by omega), if_pos (by omega)]; done))
                have PO140 : POSI K V dt134 l4_1 := POSI_no h133_2
                refine go_toq PM25 (k := 3) (pc' := 4) (L' := [some (.inr (.inr (some 35))), some (.inl l4_1), some (.inl (l4_2 + 1)), some (.inl (v_h86 - 1000))]) (st' := []) (w' := (SH, dt134)) rfl ?_
                exact GO.le (ih_loop82 l4_1 (l4_2 + 1) dt134 hI135 hF137 (by first | omega | exact TX139 | exact TX_0 (by omega) (by omega) (by omega) | exact PO140 | exact POSI_0 (by omega)) (by first | omega | exact TX139 | exact TX_0 (by omega) (by omega) (by omega) | exact PO140 | exact POSI_0 (by omega)) (by first | exact TX139 | exact TX_0 (by omega) (by omega) (by omega)) (by first | omega | exact TX139 | exact TX_0 (by omega) (by omega) (by omega) | exact PO140 | exact POSI_0 (by omega)) (by first | omega | exact TX139 | exact TX_0 (by omega) (by omega) (by omega) | exact PO140 | exact POSI_0 (by omega)) (by first | omega | exact TX139 | exact TX_0 (by omega) (by omega) (by omega) | exact PO140 | exact POSI_0 (by omega)) (by first | omega | exact TX139 | exact TX_0 (by omega) (by omega) (by omega) | exact PO140 | exact POSI_0 (by omega)) (by first | omega | exact TX139 | exact TX_0 (by omega) (by omega) (by omega) | exact PO140 | exact POSI_0 (by omega)) (by first | exact PO140 | exact POSI_0 (by omega)) (by first | omega | exact TX139 | exact TX_0 (by omega) (by omega) (by omega) | exact PO140 | exact POSI_0 (by omega)) (by first | omega | exact TX139 | exact TX_0 (by omega) (by omega) (by omega) | exact PO140 | exact POSI_0 (by omega)) (by omega)) ⟨.inl rfl, .inl rfl, .inl rfl, .inr ⟨rfl, trivial⟩, trivial⟩
            · skip
              refine go_toq PM25 (k := 2) (pc' := 39) (L' := [some (.inr (.inr (some 35))), some (.inl l4_1), some (.inl l4_2), some (.inl (v_h86 - 1000))]) (st' := [.inl 1, .inr (.inr (some 35))]) (w' := (SH, dt68)) rfl ?_
              refine go_callq PM25 PM21 (Q' := _) rfl rfl rfl rfl (sp_X1_fail_f L xs sio (d + 3) dt68 hI69 K V S t hz ht 1 ⟨by decide, by decide⟩ (by first | assumption | exact TKc_fr h_p0 hF70 (by decide) (by decide) (by decide) (by omega) | omega) (by first | assumption | exact TKc_fr h_p0 hF70 (by decide) (by decide) (by decide) (by omega) | omega) (by first | assumption | exact TKc_fr h_p0 hF70 (by decide) (by decide) (by decide) (by omega) | omega)) ?_
              rintro _ _ ⟨dt142, rfl, hI143, hF144, h141⟩
              refine ⟨rfl, ?_⟩
              have hF145 : Fr [35, 40] dt dt142 := Fr_tr hF70 hF144 (by decide)
              rcases h141 with ⟨rfl, h141⟩
              obtain ⟨h141_0, h141_1, h141_2, h141_3, h141_4⟩ := h141
              have lv146 := KLIVE hz (D := dt68) (by omega) (by omega) (by omega)
              have TX147 := TX_no (c' := l4_1) qTX (KLIVE hz (D := dt68) (by omega) (by omega) (by omega)).1 h141_0 (by decide) (by rw [gX_u hz (by omega) (by omega), if_neg (by omega)]; first | (rw [if_pos rfl, if_pos (by omega)]; done) | (rw [if_neg (by decide), if_pos (by omega)]; done))
              have PO148 : POSI K V dt142 l4_1 := POSI_no h141_2
              refine go_toq PM25 (k := 3) (pc' := 4) (L' := [some (.inr (.inr (some 35))), some (.inl l4_1), some (.inl (l4_2 + 1)), some (.inl (v_h86 - 1000))]) (st' := []) (w' := (SH, dt142)) rfl ?_
              exact GO.le (ih_loop82 l4_1 (l4_2 + 1) dt142 hI143 hF145 (by first | omega | exact TX147 | exact TX_0 (by omega) (by omega) (by omega) | exact PO148 | exact POSI_0 (by omega)) (by first | omega | exact TX147 | exact TX_0 (by omega) (by omega) (by omega) | exact PO148 | exact POSI_0 (by omega)) (by first | exact TX147 | exact TX_0 (by omega) (by omega) (by omega)) (by first | omega | exact TX147 | exact TX_0 (by omega) (by omega) (by omega) | exact PO148 | exact POSI_0 (by omega)) (by first | omega | exact TX147 | exact TX_0 (by omega) (by omega) (by omega) | exact PO148 | exact POSI_0 (by omega)) (by first | omega | exact TX147 | exact TX_0 (by omega) (by omega) (by omega) | exact PO148 | exact POSI_0 (by omega)) (by first | omega | exact TX147 | exact TX_0 (by omega) (by omega) (by omega) | exact PO148 | exact POSI_0 (by omega)) (by first | omega | exact TX147 | exact TX_0 (by omega) (by omega) (by omega) | exact PO148 | exact POSI_0 (by omega)) (by first | exact PO148 | exact POSI_0 (by omega)) (by first | omega | exact TX147 | exact TX_0 (by omega) (by omega) (by omega) | exact PO148 | exact POSI_0 (by omega)) (by first | omega | exact TX147 | exact TX_0 (by omega) (by omega) (by omega) | exact PO148 | exact POSI_0 (by omega)) (by omega)) ⟨.inl rfl, .inl rfl, .inl rfl, .inr ⟨rfl, trivial⟩, trivial⟩
  exact GO.le (loop82 _ 0 0 dt hI hF (by first | omega | exact hI | exact TX_0 (by omega) (by omega) (by omega) | exact $PO | exact POSI_0 (by omega)) (by first | omega | exact hI | exact TX_0 (by omega) (by omega) (by omega) | exact $PO | exact POSI_0 (by omega)) (by first | exact hI | exact TX_0 (by omega) (by omega) (by omega)) (by first | omega | exact hI | exact TX_0 (by omega) (by omega) (by omega) | exact $PO | exact POSI_0 (by omega)) (by first | omega | exact hI | exact TX_0 (by omega) (by omega) (by omega) | exact $PO | exact POSI_0 (by omega)) (by first | omega | exact hI | exact TX_0 (by omega) (by omega) (by omega) | exact $PO | exact POSI_0 (by omega)) (by first | omega | exact hI | exact TX_0 (by omega) (by omega) (by omega) | exact $PO | exact POSI_0 (by omega)) (by first | omega | exact hI | exact TX_0 (by omega) (by omega) (by omega) | exact $PO | exact POSI_0 (by omega)) (by first | exact $PO | exact POSI_0 (by omega)) (by first | omega | exact hI | exact TX_0 (by omega) (by omega) (by omega) | exact $PO | exact POSI_0 (by omega)) (by first | omega | exact hI | exact TX_0 (by omega) (by omega) (by omega) | exact $PO | exact POSI_0 (by omega)) (Nat.lt_succ_self _)) ⟨.inl rfl, .inl rfl, .inl rfl, .inl rfl, trivial⟩
theorem sp_X1_readLaw_f (L : Nat) (xs : Nat → Int32) (sio : Option Nat) (d : Nat) (dt : Nat → Nat → Int) (hI : InvC dt) (K V S : Nat → Int) (t : Nat) (hz : KZ K t) (ht : t ≤ 500)  (h_p0 : TKc K V S t dt) (h_p1 : 0 ≤ dt 35 8 ∧ dt 35 8 ≤ (t : Int)) (h_p2 : ¬ dt 35 2 = 0 → dt 35 8 = (t : Int)) (h_p3 : dt 35 2 = 0) (h_p4 : dt 35 3 = -1) (h_p5 : dt 35 8 = 0) : GO (am_XX L xs sio) (d + 22) 28 0 [some (.inr (.inr (some 35))), none, none] [] (SH, dt) (fun r w2 => ∃ dt2 : Nat → Nat → Int, w2 = (SH, dt2) ∧ InvC dt2 ∧ Fr [35, 41, 42] dt dt2 ∧ ((∃ v : Int, r = some (.inl v) ∧ (0 ≤ v ∧ v ≤ 16) ∧ (TXE S (gX K V 1 600 0 0) dt2 v) ∧ (0 ≤ dt2 35 8 ∧ dt2 35 8 ≤ (t : Int)) ∧ (dt2 35 1 = dt 35 1) ∧ (dt2 35 7 = dt 35 7)))) := by
  have hF : Fr [35, 41, 42] dt dt := Fr_refl
  have h7 : dt 35 7 = (t : Int) + 1 := h_p0.1
  have hk0 := TKc_k h_p0 h_p1
  have hv0 := TKc_v h_p0 h_p1
  have hs0 := TKc_s h_p0 h_p1
  refine go_toq PM28 (k := 4) (pc' := 4) (L' := [some (.inr (.inr (some 35))), some (.inl 0), some (.inl 0)]) (st' := []) (w' := (SH, dt)) rfl ?_
  have loop59 : ∀ (k_ : Nat) (l4_1 : Int) (l4_2 : Int) (dt46 : Nat → Nat → Int) (hI47 : InvC dt46) (hF48 : Fr [35, 41, 42] dt dt46) (i49 : 0 ≤ l4_1 ∧ l4_1 ≤ 16) (i50 : 0 ≤ l4_2 ∧ l4_2 ≤ 501) (i51 : TX K V S t 1 (gX K V 1 600 0 0) dt46 l4_1) (i52 : l4_2 ≤ dt46 35 8) (i53 : 0 ≤ dt46 35 8 ∧ dt46 35 8 ≤ (t : Int)) (i54 : ¬ dt46 35 2 = 0 → dt46 35 8 = (t : Int)) (i55 : dt46 35 7 = dt 35 7) (i56 : dt46 35 1 = dt 35 1) (i57 : dt46 35 1 = dt 35 1) (i58 : dt46 35 7 = dt 35 7), (502 - l4_2).toNat < k_ → GO (am_XX L xs sio) (d + 22) 28 4 [some (.inr (.inr (some 35))), some (.inl l4_1), some (.inl l4_2)] [] (SH, dt46) (fun r w2 => ∃ dt2 : Nat → Nat → Int, w2 = (SH, dt2) ∧ InvC dt2 ∧ Fr [35, 41, 42] dt dt2 ∧ ((∃ v : Int, r = some (.inl v) ∧ (0 ≤ v ∧ v ≤ 16) ∧ (TXE S (gX K V 1 600 0 0) dt2 v) ∧ (0 ≤ dt2 35 8 ∧ dt2 35 8 ≤ (t : Int)) ∧ (dt2 35 1 = dt 35 1) ∧ (dt2 35 7 = dt 35 7)))) := by
    intro k_
    induction k_ with
    | zero => intro l4_1 l4_2 dt46 hI47 hF48 i49 i50 i51 i52 i53 i54 i55 i56 i57 i58 hm; exact absurd hm (Nat.not_lt_zero _)
    | succ k_ ih_loop59 =>
      intro l4_1 l4_2 dt46 hI47 hF48 i49 i50 i51 i52 i53 i54 i55 i56 i57 i58 hm
      have qTX := i51
      refine go_ifq PM28 (k := 2) (p1 := 76) (p2 := 11) (L' := [some (.inr (.inr (some 35))), some (.inl l4_1), some (.inl l4_2)]) (st' := []) (w' := (SH, dt46)) rfl (c_gt (a := l4_2) (b := 500) (by first | exact bnd i50 (by decide) (by decide) | exact ⟨by omega, by omega⟩) ⟨by decide, by decide⟩) (fun c60 => ?_) (fun c60 => ?_)
      · skip
        refine go_retq PM28 (k := 1) (r := some (.inl l4_1)) (w1 := (SH, dt46)) rfl ?_
        exact ⟨dt46, rfl, hI47, hF48, ⟨_, rfl, (by first | exact bnd i49 (by decide) (by decide) | exact ⟨by omega, by omega⟩), ⟨by exact TX_e qTX hz (by omega) (by omega) (by omega) (fun hl => by omega), by first | exact True.intro | assumption | rfl | omega | trivial, by first | exact True.intro | assumption | rfl | omega | trivial, by first | exact True.intro | assumption | rfl | omega | trivial⟩⟩⟩
      · skip
        refine go_toq PM28 (k := 1) (pc' := 12) (L' := [some (.inr (.inr (some 35))), some (.inl l4_1), some (.inl l4_2)]) (st' := [.inr (.inr (some 35))]) (w' := (SH, dt46)) rfl ?_
        refine go_callq PM28 PM20 (Q' := _) rfl rfl rfl rfl (sp_X1_token_f L xs sio (d + 21) dt46 hI47 K V S t hz ht  (by first | assumption | exact TKc_fr h_p0 hF48 (by decide) (by decide) (by decide) (by omega) | omega) (by first | assumption | exact TKc_fr h_p0 hF48 (by decide) (by decide) (by decide) (by omega) | omega) (by first | assumption | exact TKc_fr h_p0 hF48 (by decide) (by decide) (by decide) (by omega) | omega)) ?_
        rintro _ _ ⟨rfl, h61⟩
        refine ⟨rfl, ?_⟩
        rcases h61 with ⟨v_h61, rfl, h61r, h61⟩
        refine go_ifq PM28 (k := 0) (p1 := 76) (p2 := 18) (L' := [some (.inr (.inr (some 35))), some (.inl l4_1), some (.inl l4_2)]) (st' := []) (w' := (SH, dt46)) rfl (z_eq (a := v_h61) (by first | exact bnd h61r (by decide) (by decide) | exact ⟨by omega, by omega⟩)) (fun c62 => ?_) (fun c62 => ?_)
        · skip
          refine go_retq PM28 (k := 1) (r := some (.inl l4_1)) (w1 := (SH, dt46)) rfl ?_
          exact ⟨dt46, rfl, hI47, hF48, ⟨_, rfl, (by first | exact bnd i49 (by decide) (by decide) | exact ⟨by omega, by omega⟩), ⟨by exact TX_e qTX hz (by omega) (by omega) (by omega) (fun hl => by omega), by first | exact True.intro | assumption | rfl | omega | trivial, by first | exact True.intro | assumption | rfl | omega | trivial, by first | exact True.intro | assumption | rfl | omega | trivial⟩⟩⟩
        · skip
          refine go_toq PM28 (k := 1) (pc' := 19) (L' := [some (.inr (.inr (some 35))), some (.inl l4_1), some (.inl l4_2)]) (st' := [.inr (.inr (some 35))]) (w' := (SH, dt46)) rfl ?_
          refine go_callq PM28 PM20 (Q' := _) rfl rfl rfl rfl (sp_X1_token_f L xs sio (d + 21) dt46 hI47 K V S t hz ht  (by first | assumption | exact TKc_fr h_p0 hF48 (by decide) (by decide) (by decide) (by omega) | omega) (by first | assumption | exact TKc_fr h_p0 hF48 (by decide) (by decide) (by decide) (by omega) | omega) (by first | assumption | exact TKc_fr h_p0 hF48 (by decide) (by decide) (by decide) (by omega) | omega)) ?_
          rintro _ _ ⟨rfl, h63⟩
          refine ⟨rfl, ?_⟩
          rcases h63 with ⟨v_h63, rfl, h63r, h63⟩
          refine go_ifq PM28 (k := 1) (p1 := 46) (p2 := 28) (L' := [some (.inr (.inr (some 35))), some (.inl l4_1), some (.inl l4_2)]) (st' := []) (w' := (SH, dt46)) rfl (c_eq (a := v_h63) (b := 1000) (by first | exact bnd h63r (by decide) (by decide) | exact ⟨by omega, by omega⟩) ⟨by decide, by decide⟩) (fun c64 => ?_) (fun c64 => ?_)
          · skip
            refine go_ifq PM28 (k := 2) (p1 := 60) (p2 := 52) (L' := [some (.inr (.inr (some 35))), some (.inl l4_1), some (.inl l4_2)]) (st' := []) (w' := (SH, dt46)) rfl (c_lt (a := l4_1) (b := 16) (by first | exact bnd i49 (by decide) (by decide) | exact ⟨by omega, by omega⟩) ⟨by decide, by decide⟩) (fun c65 => ?_) (fun c65 => ?_)
            · skip
              refine go_toq PM28 (k := 4) (pc' := 64) (L' := [some (.inr (.inr (some 35))), some (.inl l4_1), some (.inl l4_2)]) (st' := [.inl (l4_1 * 4), .inr (.inr (some 35))]) (w' := (SH, dt46)) rfl ?_
              refine go_callq PM28 PM29 (Q' := _) rfl rfl rfl rfl (sp_X1_readLine_f L xs sio (d + 0) dt46 hI47 K V S t hz ht (l4_1 * 4) ⟨by omega, by omega⟩ (by first | assumption | exact TKc_fr h_p0 hF48 (by decide) (by decide) (by decide) (by omega) | omega) (by first | assumption | exact TKc_fr h_p0 hF48 (by decide) (by decide) (by decide) (by omega) | omega) (by first | assumption | exact TKc_fr h_p0 hF48 (by decide) (by decide) (by decide) (by omega) | omega) (by first | assumption | exact TKc_fr h_p0 hF48 (by decide) (by decide) (by decide) (by omega) | omega)) ?_
              rintro _ _ ⟨dt67, rfl, hI68, hF69, h66⟩
              refine ⟨rfl, ?_⟩
              have hF70 : Fr [35, 41, 42] dt dt67 := Fr_tr hF48 hF69 (by decide)
              rcases h66 with ⟨rfl, h66⟩
              obtain ⟨h66_0, h66_1, h66_2, h66_3, h66_4, h66_5, h66_6⟩ := h66
              have lv71 := KLIVE hz (D := dt46) (by omega) (by omega) (by omega)
              have TX72 := TX_st qTX (KLIVE hz (D := dt46) (by omega) (by omega) (by omega)).1 rfl rfl h66_0 (by rw [gX_u hz (by omega) (by omega), if_neg (by omega), if_neg (by decide), if_neg (by omega), if_neg (by omega)])
              refine go_toq PM28 (k := 3) (pc' := 4) (L' := [some (.inr (.inr (some 35))), some (.inl (l4_1 + 1)), some (.inl (l4_2 + 1))]) (st' := []) (w' := (SH, dt67)) rfl ?_
              exact GO.le (ih_loop59 (l4_1 + 1) (l4_2 + 1) dt67 hI68 hF70 (by first | omega | exact TX72 | exact TX_0 (by omega) (by omega) (by omega)) (by first | omega | exact TX72 | exact TX_0 (by omega) (by omega) (by omega)) (by first | exact TX72 | exact TX_0 (by omega) (by omega) (by omega)) (by first | omega | exact TX72 | exact TX_0 (by omega) (by omega) (by omega)) (by first | omega | exact TX72 | exact TX_0 (by omega) (by omega) (by omega)) (by first | omega | exact TX72 | exact TX_0 (by omega) (by omega) (by omega)) (by first | omega | exact TX72 | exact TX_0 (by omega) (by omega) (by omega)) (by first | omega | exact TX72 | exact TX_0 (by omega) (by omega) (by omega)) (by first | omega | exact TX72 | exact TX_0 (by omega) (by omega) (by omega)) (by first | omega | exact TX72 | exact TX_0 (by omega) (by omega) (by omega)) (by omega)) ⟨.inl rfl, .inl rfl, .inl rfl, trivial⟩
            · skip
              refine go_toq PM28 (k := 2) (pc' := 54) (L' := [some (.inr (.inr (some 35))), some (.inl l4_1), some (.inl l4_2)]) (st' := [.inl 3, .inr (.inr (some 35))]) (w' := (SH, dt46)) rfl ?_
              refine go_callq PM28 PM21 (Q' := _) rfl rfl rfl rfl (sp_X1_fail_f L xs sio (d + 21) dt46 hI47 K V S t hz ht 3 ⟨by decide, by decide⟩ (by first | assumption | exact TKc_fr h_p0 hF48 (by decide) (by decide) (by decide) (by omega) | omega) (by first | assumption | exact TKc_fr h_p0 hF48 (by decide) (by decide) (by decide) (by omega) | omega) (by first | assumption | exact TKc_fr h_p0 hF48 (by decide) (by decide) (by decide) (by omega) | omega)) ?_
              rintro _ _ ⟨dt74, rfl, hI75, hF76, h73⟩
              refine ⟨rfl, ?_⟩
              have hF77 : Fr [35, 41, 42] dt dt74 := Fr_tr hF48 hF76 (by decide)
              rcases h73 with ⟨rfl, h73⟩
              obtain ⟨h73_0, h73_1, h73_2, h73_3, h73_4⟩ := h73
              have lv78 := KLIVE hz (D := dt46) (by omega) (by omega) (by omega)
              have TX79 := TX_no (c' := l4_1) qTX (KLIVE hz (D := dt46) (by omega) (by omega) (by omega)).1 h73_0 (by decide) (by rw [gX_u hz (by omega) (by omega), if_neg (by omega)]; first | (rw [if_pos rfl, if_neg (by omega), if_pos (by omega)]; done) | (rw [if_neg (by decide), if_neg (by omega), if_pos (by omega)]; done))
              refine go_toq PM28 (k := 3) (pc' := 4) (L' := [some (.inr (.inr (some 35))), some (.inl l4_1), some (.inl (l4_2 + 1))]) (st' := []) (w' := (SH, dt74)) rfl ?_
              exact GO.le (ih_loop59 l4_1 (l4_2 + 1) dt74 hI75 hF77 (by first | omega | exact TX79 | exact TX_0 (by omega) (by omega) (by omega)) (by first | omega | exact TX79 | exact TX_0 (by omega) (by omega) (by omega)) (by first | exact TX79 | exact TX_0 (by omega) (by omega) (by omega)) (by first | omega | exact TX79 | exact TX_0 (by omega) (by omega) (by omega)) (by first | omega | exact TX79 | exact TX_0 (by omega) (by omega) (by omega)) (by first | omega | exact TX79 | exact TX_0 (by omega) (by omega) (by omega)) (by first | omega | exact TX79 | exact TX_0 (by omega) (by omega) (by omega)) (by first | omega | exact TX79 | exact TX_0 (by omega) (by omega) (by omega)) (by first | omega | exact TX79 | exact TX_0 (by omega) (by omega) (by omega)) (by first | omega | exact TX79 | exact TX_0 (by omega) (by omega) (by omega)) (by omega)) ⟨.inl rfl, .inl rfl, .inl rfl, trivial⟩
          · skip
            refine go_toq PM28 (k := 1) (pc' := 29) (L' := [some (.inr (.inr (some 35))), some (.inl l4_1), some (.inl l4_2)]) (st' := [.inr (.inr (some 35))]) (w' := (SH, dt46)) rfl ?_
            refine go_callq PM28 PM20 (Q' := _) rfl rfl rfl rfl (sp_X1_token_f L xs sio (d + 21) dt46 hI47 K V S t hz ht  (by first | assumption | exact TKc_fr h_p0 hF48 (by decide) (by decide) (by decide) (by omega) | omega) (by first | assumption | exact TKc_fr h_p0 hF48 (by decide) (by decide) (by decide) (by omega) | omega) (by first | assumption | exact TKc_fr h_p0 hF48 (by decide) (by decide) (by decide) (by omega) | omega)) ?_
            rintro _ _ ⟨rfl, h80⟩
            refine ⟨rfl, ?_⟩
            rcases h80 with ⟨v_h80, rfl, h80r, h80⟩
            refine go_ifq PM28 (k := 1) (p1 := 46) (p2 := 38) (L' := [some (.inr (.inr (some 35))), some (.inl l4_1), some (.inl l4_2)]) (st' := []) (w' := (SH, dt46)) rfl (c_eq (a := v_h80) (b := 1001) (by first | exact bnd h80r (by decide) (by decide) | exact ⟨by omega, by omega⟩) ⟨by decide, by decide⟩) (fun c81 => ?_) (fun c81 => ?_)
            · skip
              refine go_ifq PM28 (k := 2) (p1 := 60) (p2 := 52) (L' := [some (.inr (.inr (some 35))), some (.inl l4_1), some (.inl l4_2)]) (st' := []) (w' := (SH, dt46)) rfl (c_lt (a := l4_1) (b := 16) (by first | exact bnd i49 (by decide) (by decide) | exact ⟨by omega, by omega⟩) ⟨by decide, by decide⟩) (fun c82 => ?_) (fun c82 => ?_)
              · skip
                refine go_toq PM28 (k := 4) (pc' := 64) (L' := [some (.inr (.inr (some 35))), some (.inl l4_1), some (.inl l4_2)]) (st' := [.inl (l4_1 * 4), .inr (.inr (some 35))]) (w' := (SH, dt46)) rfl ?_
                refine go_callq PM28 PM29 (Q' := _) rfl rfl rfl rfl (sp_X1_readLine_f L xs sio (d + 0) dt46 hI47 K V S t hz ht (l4_1 * 4) ⟨by omega, by omega⟩ (by first | assumption | exact TKc_fr h_p0 hF48 (by decide) (by decide) (by decide) (by omega) | omega) (by first | assumption | exact TKc_fr h_p0 hF48 (by decide) (by decide) (by decide) (by omega) | omega) (by first | assumption | exact TKc_fr h_p0 hF48 (by decide) (by decide) (by decide) (by omega) | omega) (by first | assumption | exact TKc_fr h_p0 hF48 (by decide) (by decide) (by decide) (by omega) | omega)) ?_
                rintro _ _ ⟨dt84, rfl, hI85, hF86, h83⟩
                refine ⟨rfl, ?_⟩
                have hF87 : Fr [35, 41, 42] dt dt84 := Fr_tr hF48 hF86 (by decide)
                rcases h83 with ⟨rfl, h83⟩
                obtain ⟨h83_0, h83_1, h83_2, h83_3, h83_4, h83_5, h83_6⟩ := h83
                have lv88 := KLIVE hz (D := dt46) (by omega) (by omega) (by omega)
                have TX89 := TX_st qTX (KLIVE hz (D := dt46) (by omega) (by omega) (by omega)).1 rfl rfl h83_0 (by rw [gX_u hz (by omega) (by omega), if_neg (by omega), if_neg (by decide), if_neg (by omega), if_neg (by omega)])
                refine go_toq PM28 (k := 3) (pc' := 4) (L' := [some (.inr (.inr (some 35))), some (.inl (l4_1 + 1)), some (.inl (l4_2 + 1))]) (st' := []) (w' := (SH, dt84)) rfl ?_
                exact GO.le (ih_loop59 (l4_1 + 1) (l4_2 + 1) dt84 hI85 hF87 (by first | omega | exact TX89 | exact TX_0 (by omega) (by omega) (by omega)) (by first | omega | exact TX89 | exact TX_0 (by omega) (by omega) (by omega)) (by first | exact TX89 | exact TX_0 (by omega) (by omega) (by omega)) (by first | omega | exact TX89 | exact TX_0 (by omega) (by omega) (by omega)) (by first | omega | exact TX89 | exact TX_0 (by omega) (by omega) (by omega)) (by first | omega | exact TX89 | exact TX_0 (by omega) (by omega) (by omega)) (by first | omega | exact TX89 | exact TX_0 (by omega) (by omega) (by omega)) (by first | omega | exact TX89 | exact TX_0 (by omega) (by omega) (by omega)) (by first | omega | exact TX89 | exact TX_0 (by omega) (by omega) (by omega)) (by first | omega | exact TX89 | exact TX_0 (by omega) (by omega) (by omega)) (by omega)) ⟨.inl rfl, .inl rfl, .inl rfl, trivial⟩
              · skip
                refine go_toq PM28 (k := 2) (pc' := 54) (L' := [some (.inr (.inr (some 35))), some (.inl l4_1), some (.inl l4_2)]) (st' := [.inl 3, .inr (.inr (some 35))]) (w' := (SH, dt46)) rfl ?_
                refine go_callq PM28 PM21 (Q' := _) rfl rfl rfl rfl (sp_X1_fail_f L xs sio (d + 21) dt46 hI47 K V S t hz ht 3 ⟨by decide, by decide⟩ (by first | assumption | exact TKc_fr h_p0 hF48 (by decide) (by decide) (by decide) (by omega) | omega) (by first | assumption | exact TKc_fr h_p0 hF48 (by decide) (by decide) (by decide) (by omega) | omega) (by first | assumption | exact TKc_fr h_p0 hF48 (by decide) (by decide) (by decide) (by omega) | omega)) ?_
                rintro _ _ ⟨dt91, rfl, hI92, hF93, h90⟩
                refine ⟨rfl, ?_⟩
                have hF94 : Fr [35, 41, 42] dt dt91 := Fr_tr hF48 hF93 (by decide)
                rcases h90 with ⟨rfl, h90⟩
                obtain ⟨h90_0, h90_1, h90_2, h90_3, h90_4⟩ := h90
                have lv95 := KLIVE hz (D := dt46) (by omega) (by omega) (by omega)
                have TX96 := TX_no (c' := l4_1) qTX (KLIVE hz (D := dt46) (by omega) (by omega) (by omega)).1 h90_0 (by decide) (by rw [gX_u hz (by omega) (by omega), if_neg (by omega)]; first | (rw [if_pos rfl, if_neg (by omega), if_pos (by omega)]; done) | (rw [if_neg (by decide), if_neg (by omega), if_pos (by omega)]; done))
                refine go_toq PM28 (k := 3) (pc' := 4) (L' := [some (.inr (.inr (some 35))), some (.inl l4_1), some (.inl (l4_2 + 1))]) (st' := []) (w' := (SH, dt91)) rfl ?_
                exact GO.le (ih_loop59 l4_1 (l4_2 + 1) dt91 hI92 hF94 (by first | omega | exact TX96 | exact TX_0 (by omega) (by omega) (by omega)) (by first | omega | exact TX96 | exact TX_0 (by omega) (by omega) (by omega)) (by first | exact TX96 | exact TX_0 (by omega) (by omega) (by omega)) (by first | omega | exact TX96 | exact TX_0 (by omega) (by omega) (by omega)) (by first | omega | exact TX96 | exact TX_0 (by omega) (by omega) (by omega)) (by first | omega | exact TX96 | exact TX_0 (by omega) (by omega) (by omega)) (by first | omega | exact TX96 | exact TX_0 (by omega) (by omega) (by omega)) (by first | omega | exact TX96 | exact TX_0 (by omega) (by omega) (by omega)) (by first | omega | exact TX96 | exact TX_0 (by omega) (by omega) (by omega)) (by first | omega | exact TX96 | exact TX_0 (by omega) (by omega) (by omega)) (by omega)) ⟨.inl rfl, .inl rfl, .inl rfl, trivial⟩
            · skip
              refine go_toq PM28 (k := 2) (pc' := 40) (L' := [some (.inr (.inr (some 35))), some (.inl l4_1), some (.inl l4_2)]) (st' := [.inl 1, .inr (.inr (some 35))]) (w' := (SH, dt46)) rfl ?_
              refine go_callq PM28 PM21 (Q' := _) rfl rfl rfl rfl (sp_X1_fail_f L xs sio (d + 21) dt46 hI47 K V S t hz ht 1 ⟨by decide, by decide⟩ (by first | assumption | exact TKc_fr h_p0 hF48 (by decide) (by decide) (by decide) (by omega) | omega) (by first | assumption | exact TKc_fr h_p0 hF48 (by decide) (by decide) (by decide) (by omega) | omega) (by first | assumption | exact TKc_fr h_p0 hF48 (by decide) (by decide) (by decide) (by omega) | omega)) ?_
              rintro _ _ ⟨dt98, rfl, hI99, hF100, h97⟩
              refine ⟨rfl, ?_⟩
              have hF101 : Fr [35, 41, 42] dt dt98 := Fr_tr hF48 hF100 (by decide)
              rcases h97 with ⟨rfl, h97⟩
              obtain ⟨h97_0, h97_1, h97_2, h97_3, h97_4⟩ := h97
              have lv102 := KLIVE hz (D := dt46) (by omega) (by omega) (by omega)
              have TX103 := TX_no (c' := l4_1) qTX (KLIVE hz (D := dt46) (by omega) (by omega) (by omega)).1 h97_0 (by decide) (by rw [gX_u hz (by omega) (by omega), if_neg (by omega)]; first | (rw [if_pos rfl, if_pos (by omega)]; done) | (rw [if_neg (by decide), if_pos (by omega)]; done))
              refine go_toq PM28 (k := 3) (pc' := 4) (L' := [some (.inr (.inr (some 35))), some (.inl l4_1), some (.inl (l4_2 + 1))]) (st' := []) (w' := (SH, dt98)) rfl ?_
              exact GO.le (ih_loop59 l4_1 (l4_2 + 1) dt98 hI99 hF101 (by first | omega | exact TX103 | exact TX_0 (by omega) (by omega) (by omega)) (by first | omega | exact TX103 | exact TX_0 (by omega) (by omega) (by omega)) (by first | exact TX103 | exact TX_0 (by omega) (by omega) (by omega)) (by first | omega | exact TX103 | exact TX_0 (by omega) (by omega) (by omega)) (by first | omega | exact TX103 | exact TX_0 (by omega) (by omega) (by omega)) (by first | omega | exact TX103 | exact TX_0 (by omega) (by omega) (by omega)) (by first | omega | exact TX103 | exact TX_0 (by omega) (by omega) (by omega)) (by first | omega | exact TX103 | exact TX_0 (by omega) (by omega) (by omega)) (by first | omega | exact TX103 | exact TX_0 (by omega) (by omega) (by omega)) (by first | omega | exact TX103 | exact TX_0 (by omega) (by omega) (by omega)) (by omega)) ⟨.inl rfl, .inl rfl, .inl rfl, trivial⟩
  exact GO.le (loop59 _ 0 0 dt hI hF (by first | omega | exact hI | exact TX_0 (by omega) (by omega) (by omega)) (by first | omega | exact hI | exact TX_0 (by omega) (by omega) (by omega)) (by first | exact hI | exact TX_0 (by omega) (by omega) (by omega)) (by first | omega | exact hI | exact TX_0 (by omega) (by omega) (by omega)) (by first | omega | exact hI | exact TX_0 (by omega) (by omega) (by omega)) (by first | omega | exact hI | exact TX_0 (by omega) (by omega) (by omega)) (by first | omega | exact hI | exact TX_0 (by omega) (by omega) (by omega)) (by first | omega | exact hI | exact TX_0 (by omega) (by omega) (by omega)) (by first | omega | exact hI | exact TX_0 (by omega) (by omega) (by omega)) (by first | omega | exact hI | exact TX_0 (by omega) (by omega) (by omega)) (Nat.lt_succ_self _)) ⟨.inl rfl, .inl rfl, .inl rfl, trivial⟩
