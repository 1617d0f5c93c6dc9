theorem chk_c38_sp_X5_need_f (L : Nat) (xs : Nat → Int32) (sio : Option Nat) (d : Nat) (dt : Nat → Nat → Int) (hI : InvC dt)  (p1 : Int) (h_p1 : (-2147483648) ≤ p1 ∧ p1 ≤ 2147483647) (p2 : Int) (h_p2 : (-2147483648) ≤ p2 ∧ p2 ≤ 2147483647)  : GO (am_XX L xs sio) (d + 3) 87 0 [some (.inr (.inr (some 0))), some (.inl p1), some (.inl p2), none] [] (SH, dt) (fun r w2 => ∃ dt2 : Nat → Nat → Int, w2 = (SH, dt2) ∧ InvC dt2 ∧ Fr [75] dt dt2 ∧ ((∃ v : Int, r = some (.inl v) ∧ ((-1) ≤ v ∧ v ≤ 12) ∧ (v = NEI ((0 ≤ p1 ∧ p1 ≤ 7) ∧ (1 ≤ p2 ∧ p2 ≤ 1000)) (NDV (fun q => ODD (fun k => PW9 (NCT (SDC (dt 9)) p1 (k : Int) q)) p1) p2 (dt 7 3).toNat 0))))) := by
  have hF : Fr [75] dt dt := Fr_refl
  have r1 : 0 ≤ dt 7 3 ∧ dt 7 3 ≤ 12 := InvC_get hI 7 3 rfl rfl
  refine go_toq PM87 (k := 1) (pc' := 1) (L' := [some (.inr (.inr (some 0))), some (.inl p1), some (.inl p2), none]) (st' := [.inl p1]) (w' := (SH, dt)) rfl ?_
  refine go_callq PM87 PM106 (Q' := _) rfl rfl rfl rfl (sp_X5_isRule L xs sio (d + 1) dt hI  p1 (by first | exact h_p1 | exact ⟨by omega, by omega⟩) ) ?_
  rintro _ _ ⟨rfl, h2⟩
  refine ⟨rfl, ?_⟩
  rcases h2 with ⟨rfl, h2⟩ | ⟨rfl, h2⟩
  · skip
    refine go_toq PM87 (k := 4) (pc' := 12) (L' := [some (.inr (.inr (some 0))), some (.inl p1), some (.inl p2), none]) (st' := [.inl 1000, .inl 1, .inl p2]) (w' := (SH, dt)) rfl ?_
    refine go_callq PM87 PM100 (Q' := _) rfl rfl rfl rfl (sp_X5_within L xs sio (d + 2) dt hI  p2 (by first | exact h_p2 | exact ⟨by omega, by omega⟩) 1 ⟨by decide, by decide⟩ 1000 ⟨by decide, by decide⟩ ) ?_
    rintro _ _ ⟨rfl, h3⟩
    refine ⟨rfl, ?_⟩
    rcases h3 with ⟨rfl, h3⟩ | ⟨rfl, h3⟩
    · skip
      refine go_toq PM87 (k := 4) (pc' := 25) (L' := [some (.inr (.inr (some 0))), some (.inl p1), some (.inl p2), none]) (st' := [.inl 0, .inr (.inr (some 75))]) (w' := (SH, dt)) rfl ?_
      refine go_callq PM87 PM261 (Q' := _) rfl rfl rfl rfl (sp_J7_fill_53178_w75 L xs sio (d + 2) dt hI  0 ⟨by decide, by decide⟩ ) ?_
      rintro _ _ ⟨dt5, rfl, hI6, hF7, h4⟩
      refine ⟨rfl, ?_⟩
      have hF8 : Fr [75] dt dt5 := Fr_tr hF hF7 (by decide)
      rcases h4 with ⟨rfl, h4⟩
      refine go_toq PM87 (k := 2) (pc' := 30) (L' := [some (.inr (.inr (some 0))), some (.inl p1), some (.inl p2), none]) (st' := [.inl p1, .inr (.inr (some 0))]) (w' := (SH, dt5)) rfl ?_
      refine go_callq PM87 PM127 (Q' := _) rfl rfl rfl rfl (sp_X5_oddsOf_f L xs sio (d + 0) dt5 hI6 (fun k => NCT (SDC (dt 9)) p1 (k : Int) 0) p1 (by first | exact h_p1 | exact ⟨by omega, by omega⟩) (by first | trivial | omega | assumption | (rw [show dt5 7 3 = dt 7 3 from hF8 7 (by decide) 3]; omega) | (intro r hr; exact ⟨(fun (r : Nat) (hr : r < 8) => (h4) r (by omega)) r hr, NCT_12 (by omega)⟩) | exact fun _ => NCT_12 (by omega) | (intro r hr; have y_ := NCT_le (S := (SDC (dt 9))) (x := p1) (r := (r : Int)) l41_3.toNat; exact ⟨qA r hr, by show 0 ≤ ((NCT (SDC (dt 9)) p1 (r : Int) l41_3.toNat : Nat) : Int); omega, by show ((NCT (SDC (dt 9)) p1 (r : Int) l41_3.toNat : Nat) : Int) ≤ 11; omega⟩)) (by first | trivial | omega | assumption | (rw [show dt5 7 3 = dt 7 3 from hF8 7 (by decide) 3]; omega) | (intro r hr; exact ⟨(fun (r : Nat) (hr : r < 8) => (h4) r (by omega)) r hr, NCT_12 (by omega)⟩) | exact fun _ => NCT_12 (by omega) | (intro r hr; have y_ := NCT_le (S := (SDC (dt 9))) (x := p1) (r := (r : Int)) l41_3.toNat; exact ⟨qA r hr, by show 0 ≤ ((NCT (SDC (dt 9)) p1 (r : Int) l41_3.toNat : Nat) : Int); omega, by show ((NCT (SDC (dt 9)) p1 (r : Int) l41_3.toNat : Nat) : Int) ≤ 11; omega⟩))) ?_
      rintro _ _ ⟨rfl, h9⟩
      refine ⟨rfl, ?_⟩
      rcases h9 with ⟨v_h9, rfl, h9r, h9⟩
      have od10 : v_h9 = ODD (fun k => PW9 (NCT (SDC (dt 9)) p1 (k : Int) 0)) p1 := h9
      refine go_ifq PM87 (k := 1) (p1 := 39) (p2 := 37) (L' := [some (.inr (.inr (some 0))), some (.inl p1), some (.inl p2), none]) (st' := []) (w' := (SH, dt5)) rfl (c_lt (a := v_h9) (b := p2) ⟨by omega, by omega⟩ ⟨by omega, by omega⟩) (fun c11 => ?_) (fun c11 => ?_)
      · skip
        refine go_toq PM87 (k := 2) (pc' := 41) (L' := [some (.inr (.inr (some 0))), some (.inl p1), some (.inl p2), some (.inl 0)]) (st' := []) (w' := (SH, dt5)) rfl ?_
        have loop34 : ∀ (k_ : Nat) (l41_3 : Int) (dt26 : Nat → Nat → Int) (hI27 : InvC dt26) (hF28 : Fr [75] dt dt26) (i29 : 0 ≤ l41_3 ∧ l41_3 ≤ 12) (i30 : ∀ r : Nat, r < 8 → dt26 75 r = (NCT (SDC (dt 9)) p1 (r : Int) l41_3.toNat : Int)) (i31 : l41_3 ≤ dt 7 3) (i32 : ODD (fun k => PW9 (NCT (SDC (dt 9)) p1 (k : Int) l41_3.toNat)) p1 < p2) (i33 : NDV (fun q => ODD (fun k => PW9 (NCT (SDC (dt 9)) p1 (k : Int) q)) p1) p2 (dt 7 3).toNat 0 = NDV (fun q => ODD (fun k => PW9 (NCT (SDC (dt 9)) p1 (k : Int) q)) p1) p2 (dt 7 3 - l41_3).toNat l41_3.toNat), (13 - l41_3).toNat < k_ → GO (am_XX L xs sio) (d + 3) 87 41 [some (.inr (.inr (some 0))), some (.inl p1), some (.inl p2), some (.inl l41_3)] [] (SH, dt26) (fun r w2 => ∃ dt2 : Nat → Nat → Int, w2 = (SH, dt2) ∧ InvC dt2 ∧ Fr [75] dt dt2 ∧ ((∃ v : Int, r = some (.inl v) ∧ ((-1) ≤ v ∧ v ≤ 12) ∧ (v = NEI ((0 ≤ p1 ∧ p1 ≤ 7) ∧ (1 ≤ p2 ∧ p2 ≤ 1000)) (NDV (fun q => ODD (fun k => PW9 (NCT (SDC (dt 9)) p1 (k : Int) q)) p1) p2 (dt 7 3).toNat 0))))) := by
          intro k_
          induction k_ with
          | zero => intro l41_3 dt26 hI27 hF28 i29 i30 i31 i32 i33 hm; exact absurd hm (Nat.not_lt_zero _)
          | succ k_ ih_loop34 =>
            intro l41_3 dt26 hI27 hF28 i29 i30 i31 i32 i33 hm
            have qA := i30
            have qO := i32
            have qN := i33
            refine go_toq PM87 (k := 4) (pc' := 49) (L' := [some (.inr (.inr (some 0))), some (.inl p1), some (.inl p2), some (.inl l41_3)]) (st' := [.inr (.inr (some 7)), .inl l41_3]) (w' := (SH, dt26)) rfl ?_
            refine go_smpq PM87 (L' := [some (.inr (.inr (some 0))), some (.inl p1), some (.inl p2), some (.inl l41_3)]) (st' := [.inl (dt 7 3), .inl l41_3]) (w' := (SH, dt26)) rfl rfl (s_gfc rfl rfl rfl (hF28 7 (by decide) 3)) ?_
            refine go_ifq PM87 (k := 0) (p1 := 88) (p2 := 55) (L' := [some (.inr (.inr (some 0))), some (.inl p1), some (.inl p2), some (.inl l41_3)]) (st' := []) (w' := (SH, dt26)) rfl (c_ge (a := l41_3) (b := dt 7 3) ⟨by omega, by omega⟩ ⟨by omega, by omega⟩) (fun c35 => ?_) (fun c35 => ?_)
            · skip
              refine go_retq PM87 (k := 1) (r := some (.inl (-1))) (w1 := (SH, dt26)) rfl ?_
              exact ⟨dt26, rfl, hI27, hF28, ⟨_, rfl, ⟨by omega, by omega⟩, by first | (rw [NEI_n (by omega)]; done) | (rw [NEI_y (by omega)]; first | exact NDV_r0 od10 (by omega) | exact NDV_r1 qN (by omega) (by omega) qO od10 (by omega) | exact NDV_r2 qN (by omega) qO)⟩⟩
            · skip
              refine go_toq PM87 (k := 6) (pc' := 63) (L' := [some (.inr (.inr (some 0))), some (.inl p1), some (.inl p2), some (.inl l41_3)]) (st' := [.inl p1, .inl l41_3, .inr (.inr (some 1)), .inl l41_3, .inr (.inr (some 0))]) (w' := (SH, dt26)) rfl ?_
              refine go_callq PM87 PM1 (Q' := _) rfl rfl rfl rfl (sp_X0_saidOf_f L xs sio (d + 1) dt26 hI27  l41_3 ⟨by omega, by omega⟩ p1 (by first | exact h_p1 | exact ⟨by omega, by omega⟩) (by first | trivial | omega | assumption | (rw [show dt26 7 3 = dt 7 3 from hF28 7 (by decide) 3]; omega) | (intro r hr; exact ⟨(fun (r : Nat) (hr : r < 8) => (h4) r (by omega)) r hr, NCT_12 (by omega)⟩) | exact fun _ => NCT_12 (by omega) | (intro r hr; have y_ := NCT_le (S := (SDC (dt 9))) (x := p1) (r := (r : Int)) l41_3.toNat; exact ⟨qA r hr, by show 0 ≤ ((NCT (SDC (dt 9)) p1 (r : Int) l41_3.toNat : Nat) : Int); omega, by show ((NCT (SDC (dt 9)) p1 (r : Int) l41_3.toNat : Nat) : Int) ≤ 11; omega⟩))) ?_
              rintro _ _ ⟨rfl, h36⟩
              refine ⟨rfl, ?_⟩
              rcases h36 with ⟨rfl, h36⟩
              have sd37 : dt26 9 (((l41_3 * 11) + p1)).toNat = SDC (dt 9) l41_3.toNat p1 := by unfold SDC; rw [show 11 * l41_3.toNat + p1.toNat = (((l41_3 * 11) + p1)).toNat by first | with_reducible assumption | omega]; exact hF28 9 (by decide) _
              refine go_callq PM87 PM125 (Q' := _) rfl rfl rfl rfl (sp_X5_agree_f L xs sio (d + 0) dt26 hI27 (fun r => (NCT (SDC (dt 9)) p1 (r : Int) l41_3.toNat : Int)) l41_3 ⟨by omega, by omega⟩ (dt26 9 (((l41_3 * 11) + p1)).toNat) ⟨by omega, by omega⟩ (by first | trivial | omega | assumption | (rw [show dt26 7 3 = dt 7 3 from hF28 7 (by decide) 3]; omega) | (intro r hr; exact ⟨(fun (r : Nat) (hr : r < 8) => (h4) r (by omega)) r hr, NCT_12 (by omega)⟩) | exact fun _ => NCT_12 (by omega) | (intro r hr; have y_ := NCT_le (S := (SDC (dt 9))) (x := p1) (r := (r : Int)) l41_3.toNat; exact ⟨qA r hr, by show 0 ≤ ((NCT (SDC (dt 9)) p1 (r : Int) l41_3.toNat : Nat) : Int); omega, by show ((NCT (SDC (dt 9)) p1 (r : Int) l41_3.toNat : Nat) : Int) ≤ 11; omega⟩)) (by first | trivial | omega | assumption | (rw [show dt26 7 3 = dt 7 3 from hF28 7 (by decide) 3]; omega) | (intro r hr; exact ⟨(fun (r : Nat) (hr : r < 8) => (h4) r (by omega)) r hr, NCT_12 (by omega)⟩) | exact fun _ => NCT_12 (by omega) | (intro r hr; have y_ := NCT_le (S := (SDC (dt 9))) (x := p1) (r := (r : Int)) l41_3.toNat; exact ⟨qA r hr, by show 0 ≤ ((NCT (SDC (dt 9)) p1 (r : Int) l41_3.toNat : Nat) : Int); omega, by show ((NCT (SDC (dt 9)) p1 (r : Int) l41_3.toNat : Nat) : Int) ≤ 11; omega⟩))) ?_
              rintro _ _ ⟨dt39, rfl, hI40, hF41, h38⟩
              refine ⟨rfl, ?_⟩
              have hF42 : Fr [75] dt dt39 := Fr_tr hF28 hF41 (by decide)
              rcases h38 with ⟨rfl, h38⟩
              have ag43 := h38
              first | rw [sd37, show dt26 9 = dt 9 from funext (hF28 9 (by decide))] at ag43 | rw [show dt26 9 = dt 9 from funext (hF28 9 (by decide)), sd37] at ag43
              (try dsimp only at ag43)
              have ca44 : ∀ r : Nat, r < 8 → dt39 75 r = (NCT (SDC (dt 9)) p1 (r : Int) (l41_3 + 1).toNat : Int) := fun r hr => by rw [ag43 r hr, NCT_i (by omega)]
              refine go_toq PM87 (k := 2) (pc' := 71) (L' := [some (.inr (.inr (some 0))), some (.inl p1), some (.inl p2), some (.inl l41_3)]) (st' := [.inl p1, .inr (.inr (some 0))]) (w' := (SH, dt39)) rfl ?_
              refine go_callq PM87 PM127 (Q' := _) rfl rfl rfl rfl (sp_X5_oddsOf_f L xs sio (d + 0) dt39 hI40 (fun k => NCT (SDC (dt 9)) p1 (k : Int) (l41_3 + 1).toNat) p1 (by first | exact h_p1 | exact ⟨by omega, by omega⟩) (by first | trivial | omega | assumption | (rw [show dt39 7 3 = dt 7 3 from hF42 7 (by decide) 3]; omega) | (intro r hr; exact ⟨ca44 r hr, NCT_12 (by omega)⟩) | exact fun _ => NCT_12 (by omega) | (intro r hr; have y_ := NCT_le (S := (SDC (dt 9))) (x := p1) (r := (r : Int)) l41_3.toNat; exact ⟨qA r hr, by show 0 ≤ ((NCT (SDC (dt 9)) p1 (r : Int) l41_3.toNat : Nat) : Int); omega, by show ((NCT (SDC (dt 9)) p1 (r : Int) l41_3.toNat : Nat) : Int) ≤ 11; omega⟩)) (by first | trivial | omega | assumption | (rw [show dt39 7 3 = dt 7 3 from hF42 7 (by decide) 3]; omega) | (intro r hr; exact ⟨ca44 r hr, NCT_12 (by omega)⟩) | exact fun _ => NCT_12 (by omega) | (intro r hr; have y_ := NCT_le (S := (SDC (dt 9))) (x := p1) (r := (r : Int)) l41_3.toNat; exact ⟨qA r hr, by show 0 ≤ ((NCT (SDC (dt 9)) p1 (r : Int) l41_3.toNat : Nat) : Int); omega, by show ((NCT (SDC (dt 9)) p1 (r : Int) l41_3.toNat : Nat) : Int) ≤ 11; omega⟩))) ?_
              rintro _ _ ⟨rfl, h45⟩
              refine ⟨rfl, ?_⟩
              rcases h45 with ⟨v_h45, rfl, h45r, h45⟩
              have od46 : v_h45 = ODD (fun k => PW9 (NCT (SDC (dt 9)) p1 (k : Int) (l41_3 + 1).toNat)) p1 := h45
              refine go_ifq PM87 (k := 1) (p1 := 82) (p2 := 78) (L' := [some (.inr (.inr (some 0))), some (.inl p1), some (.inl p2), some (.inl l41_3)]) (st' := []) (w' := (SH, dt39)) rfl (c_lt (a := v_h45) (b := p2) ⟨by omega, by omega⟩ ⟨by omega, by omega⟩) (fun c47 => ?_) (fun c47 => ?_)
              · skip
                refine go_toq PM87 (k := 2) (pc' := 41) (L' := [some (.inr (.inr (some 0))), some (.inl p1), some (.inl p2), some (.inl (l41_3 + 1))]) (st' := []) (w' := (SH, dt39)) rfl ?_
                exact GO.le (ih_loop34 (l41_3 + 1) dt39 hI40 hF42 (by first | with_reducible assumption | omega | exact ca44 | exact NDV_0 rfl | exact NDV_s qN (by omega) (by omega) qO | (show ODD (fun k => PW9 (NCT (SDC (dt 9)) p1 (k : Int) 0)) p1 < p2; rw [← od46]; omega) | (show ODD (fun k => PW9 (NCT (SDC (dt 9)) p1 (k : Int) (l41_3 + 1).toNat)) p1 < p2; rw [← od46]; omega)) (by first | with_reducible assumption | omega | exact ca44 | exact NDV_0 rfl | exact NDV_s qN (by omega) (by omega) qO | (show ODD (fun k => PW9 (NCT (SDC (dt 9)) p1 (k : Int) 0)) p1 < p2; rw [← od46]; omega) | (show ODD (fun k => PW9 (NCT (SDC (dt 9)) p1 (k : Int) (l41_3 + 1).toNat)) p1 < p2; rw [← od46]; omega)) (by first | with_reducible assumption | omega | exact ca44 | exact NDV_0 rfl | exact NDV_s qN (by omega) (by omega) qO | (show ODD (fun k => PW9 (NCT (SDC (dt 9)) p1 (k : Int) 0)) p1 < p2; rw [← od46]; omega) | (show ODD (fun k => PW9 (NCT (SDC (dt 9)) p1 (k : Int) (l41_3 + 1).toNat)) p1 < p2; rw [← od46]; omega)) (by first | with_reducible assumption | omega | exact ca44 | exact NDV_0 rfl | exact NDV_s qN (by omega) (by omega) qO | (show ODD (fun k => PW9 (NCT (SDC (dt 9)) p1 (k : Int) 0)) p1 < p2; rw [← od46]; omega) | (show ODD (fun k => PW9 (NCT (SDC (dt 9)) p1 (k : Int) (l41_3 + 1).toNat)) p1 < p2; rw [← od46]; omega)) (by first | with_reducible assumption | omega | exact ca44 | exact NDV_0 rfl | exact NDV_s qN (by omega) (by omega) qO | (show ODD (fun k => PW9 (NCT (SDC (dt 9)) p1 (k : Int) 0)) p1 < p2; rw [← od46]; omega) | (show ODD (fun k => PW9 (NCT (SDC (dt 9)) p1 (k : Int) (l41_3 + 1).toNat)) p1 < p2; rw [← od46]; omega)) (by omega)) ⟨.inl rfl, .inl rfl, .inl rfl, .inl rfl, trivial⟩
              · skip
                refine go_retq PM87 (k := 3) (r := some (.inl (l41_3 + 1))) (w1 := (SH, dt39)) rfl ?_
                exact ⟨dt39, rfl, hI40, hF42, ⟨_, rfl, ⟨by omega, by omega⟩, by first | (rw [NEI_n (by omega)]; done) | (rw [NEI_y (by omega)]; first | exact NDV_r0 od46 (by omega) | exact NDV_r1 qN (by omega) (by omega) qO od46 (by omega) | exact NDV_r2 qN (by omega) qO)⟩⟩
        exact GO.le (loop34 _ 0 dt5 hI6 hF8 (by first | with_reducible assumption | omega | exact (fun (r : Nat) (hr : r < 8) => (h4) r (by omega)) | exact NDV_0 rfl | exact NDV_s qN (by omega) (by omega) qO | (show ODD (fun k => PW9 (NCT (SDC (dt 9)) p1 (k : Int) 0)) p1 < p2; rw [← od10]; omega) | (show ODD (fun k => PW9 (NCT (SDC (dt 9)) p1 (k : Int) (l41_3 + 1).toNat)) p1 < p2; rw [← od10]; omega)) (by first | with_reducible assumption | omega | exact (fun (r : Nat) (hr : r < 8) => (h4) r (by omega)) | exact NDV_0 rfl | exact NDV_s qN (by omega) (by omega) qO | (show ODD (fun k => PW9 (NCT (SDC (dt 9)) p1 (k : Int) 0)) p1 < p2; rw [← od10]; omega) | (show ODD (fun k => PW9 (NCT (SDC (dt 9)) p1 (k : Int) (l41_3 + 1).toNat)) p1 < p2; rw [← od10]; omega)) (by first | with_reducible assumption | omega | exact (fun (r : Nat) (hr : r < 8) => (h4) r (by omega)) | exact NDV_0 rfl | exact NDV_s qN (by omega) (by omega) qO | (show ODD (fun k => PW9 (NCT (SDC (dt 9)) p1 (k : Int) 0)) p1 < p2; rw [← od10]; omega) | (show ODD (fun k => PW9 (NCT (SDC (dt 9)) p1 (k : Int) (l41_3 + 1).toNat)) p1 < p2; rw [← od10]; omega)) (by first | with_reducible assumption | omega | exact (fun (r : Nat) (hr : r < 8) => (h4) r (by omega)) | exact NDV_0 rfl | exact NDV_s qN (by omega) (by omega) qO | (show ODD (fun k => PW9 (NCT (SDC (dt 9)) p1 (k : Int) 0)) p1 < p2; rw [← od10]; omega) | (show ODD (fun k => PW9 (NCT (SDC (dt 9)) p1 (k : Int) (l41_3 + 1).toNat)) p1 < p2; rw [← od10]; omega)) (by first | with_reducible assumption | omega | exact (fun (r : Nat) (hr : r < 8) => (h4) r (by omega)) | exact NDV_0 rfl | exact NDV_s qN (by omega) (by omega) qO | (show ODD (fun k => PW9 (NCT (SDC (dt 9)) p1 (k : Int) 0)) p1 < p2; rw [← od10]; omega) | (show ODD (fun k => PW9 (NCT (SDC (dt 9)) p1 (k : Int) (l41_3 + 1).toNat)) p1 < p2; rw [← od10]; omega)) (Nat.lt_succ_self _)) ⟨.inl rfl, .inl rfl, .inl rfl, .inl rfl, trivial⟩
      · skip
        refine go_retq PM87 (k := 1) (r := some (.inl 0)) (w1 := (SH, dt5)) rfl ?_
        exact ⟨dt5, rfl, hI6, hF8, ⟨_, rfl, ⟨by omega, by omega⟩, by first | (rw [NEI_n (by omega)]; done) | (rw [NEI_y (by omega)]; first | exact NDV_r0 od10 (by omega) | exact NDV_r1 qN (by omega) (by omega) qO od10 (by omega) | exact NDV_r2 qN (by omega) qO)⟩⟩
    · skip
      refine go_retq PM87 (k := 2) (r := some (.inl (-1))) (w1 := (SH, dt)) rfl ?_
      exact ⟨dt, rfl, hI, hF, ⟨_, rfl, ⟨by omega, by omega⟩, by first | (rw [NEI_n (by omega)]; done) | (rw [NEI_y (by omega)]; first | exact NDV_r0 hI (by omega) | exact NDV_r1 qN (by omega) (by omega) qO hI (by omega) | exact NDV_r2 qN (by omega) qO)⟩⟩
  · skip
    refine go_retq PM87 (k := 2) (r := some (.inl (-1))) (w1 := (SH, dt)) rfl ?_
    exact ⟨dt, rfl, hI, hF, ⟨_, rfl, ⟨by omega, by omega⟩, by first | (rw [NEI_n (by omega)]; done) | (rw [NEI_y (by omega)]; first | exact NDV_r0 hI (by omega) | exact NDV_r1 qN (by omega) (by omega) qO hI (by omega) | exact NDV_r2 qN (by omega) qO)⟩⟩

