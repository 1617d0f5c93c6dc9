set_option maxRecDepth 20000 in
theorem sp_X6_curves_k (L : Nat) (xs : Nat → Int32) (sio : Option Nat) (d : Nat) (dt : Nat → Nat → Int) (hI : InvC dt) (hM : MW (dt 80))  (p1 : Int) (h_p1 : (-1) ≤ p1 ∧ p1 ≤ 20)  : GO (am_XX L xs sio) (d + 7) 241 0 [some (.inr (.inr (some 79))), some (.inl p1), none] [] (SH, dt) (fun r w2 => ∃ dt2 : Nat → Nat → Int, w2 = (SH, dt2) ∧ InvC dt2 ∧ Fr [79, 88, 89, 90, 91, 92, 93, 94, 95, 96, 97, 98, 99, 100] dt dt2 ∧ ((r = none ∧ (dt2 79 2 = dt 79 2) ∧ (dt2 79 12 = dt 79 12)))) := by
  have hF : Fr [79, 88, 89, 90, 91, 92, 93, 94, 95, 96, 97, 98, 99, 100] dt dt := Fr_refl
  refine go_toq PM241 (k := 2) (pc' := 2) (L' := [some (.inr (.inr (some 79))), some (.inl p1), none]) (st' := [.inl 0, .inr (.inr (some 79))]) (w' := (SH, dt)) rfl ?_
  have hI1 : InvC (u2 dt 79 39 0) := InvC_u2 hI (lo := -2147483648) (hi := 2147483647) rfl rfl rfl (by decide) (by decide)
  have hF2 : Fr [79, 88, 89, 90, 91, 92, 93, 94, 95, 96, 97, 98, 99, 100] dt (u2 dt 79 39 0) := Fr_u2 hF (by decide)
  have w3 : (u2 dt 79 39 0) 79 2 = dt 79 2 := rfl
  have w4 : (u2 dt 79 39 0) 79 12 = dt 79 12 := rfl
  refine go_smpq PM241 (L' := [some (.inr (.inr (some 79))), some (.inl p1), none]) (st' := []) (w' := (SH, (u2 dt 79 39 0))) rfl rfl (s_pf rfl rfl rfl rfl ⟨by decide, by decide⟩) ?_
  refine go_toq PM241 (k := 2) (pc' := 7) (L' := [some (.inr (.inr (some 79))), some (.inl p1), none]) (st' := [.inl 0, .inr (.inr (some 79))]) (w' := (SH, (u2 dt 79 39 0))) rfl ?_
  have hI5 : InvC (u2 (u2 dt 79 39 0) 79 40 0) := InvC_u2 hI1 (lo := -2147483648) (hi := 2147483647) rfl rfl rfl (by decide) (by decide)
  have hF6 : Fr [79, 88, 89, 90, 91, 92, 93, 94, 95, 96, 97, 98, 99, 100] dt (u2 (u2 dt 79 39 0) 79 40 0) := Fr_u2 hF2 (by decide)
  have w7 : (u2 (u2 dt 79 39 0) 79 40 0) 79 2 = (u2 dt 79 39 0) 79 2 := rfl
  have w8 : (u2 (u2 dt 79 39 0) 79 40 0) 79 12 = (u2 dt 79 39 0) 79 12 := rfl
  refine go_smpq PM241 (L' := [some (.inr (.inr (some 79))), some (.inl p1), none]) (st' := []) (w' := (SH, (u2 (u2 dt 79 39 0) 79 40 0))) rfl rfl (s_pf rfl rfl rfl rfl ⟨by decide, by decide⟩) ?_
  refine go_toq PM241 (k := 2) (pc' := 12) (L' := [some (.inr (.inr (some 79))), some (.inl p1), some (.inl 0)]) (st' := []) (w' := (SH, (u2 (u2 dt 79 39 0) 79 40 0))) rfl ?_
  have loop295 : ∀ (k_ : Nat) (l12_2 : Int) (dt289 : Nat → Nat → Int) (hI290 : InvC dt289) (hF291 : Fr [79, 88, 89, 90, 91, 92, 93, 94, 95, 96, 97, 98, 99, 100] dt dt289) (i292 : 0 ≤ l12_2 ∧ l12_2 ≤ 300) (i293 : dt289 79 2 = dt 79 2) (i294 : dt289 79 12 = dt 79 12), (301 - l12_2).toNat < k_ → GO (am_XX L xs sio) (d + 7) 241 12 [some (.inr (.inr (some 79))), some (.inl p1), some (.inl l12_2)] [] (SH, dt289) (fun r w2 => ∃ dt2 : Nat → Nat → Int, w2 = (SH, dt2) ∧ InvC dt2 ∧ Fr [79, 88, 89, 90, 91, 92, 93, 94, 95, 96, 97, 98, 99, 100] dt dt2 ∧ ((r = none ∧ (dt2 79 2 = dt 79 2) ∧ (dt2 79 12 = dt 79 12)))) := by
    intro k_
    induction k_ with
    | zero => intro l12_2 dt289 hI290 hF291 i292 i293 i294 hm; exact absurd hm (Nat.not_lt_zero _)
    | succ k_ ih_loop295 =>
      intro l12_2 dt289 hI290 hF291 i292 i293 i294 hm
      refine go_toq PM241 (k := 4) (pc' := 18) (L' := [some (.inr (.inr (some 79))), some (.inl p1), some (.inl l12_2)]) (st' := [.inl 3, .inr (.inr (some 80)), .inl l12_2]) (w' := (SH, dt289)) rfl ?_
      have r296 : (-2147483648) ≤ dt 80 3 ∧ dt 80 3 ≤ 2147483647 := InvC_get hI 80 3 rfl rfl
      have r297 := MW_n hM
      refine go_smpq PM241 (L' := [some (.inr (.inr (some 79))), some (.inl p1), some (.inl l12_2)]) (st' := [.inl (dt 80 3), .inl l12_2]) (w' := (SH, dt289)) rfl rfl (s_ev (s_iald (n := 7460) (f := dt289 80) rfl ⟨by decide, by decide⟩) (hF291 80 (by decide) _)) ?_
      refine go_ifq PM241 (k := 0) (p1 := 101) (p2 := 22) (L' := [some (.inr (.inr (some 79))), some (.inl p1), some (.inl l12_2)]) (st' := []) (w' := (SH, dt289)) rfl (c_ge (a := l12_2) (b := dt 80 3) (by first | exact bnd i292 (by decide) (by decide) | exact ⟨by omega, by omega⟩) (by first | exact bnd r296 (by decide) (by decide) | exact ⟨by omega, by omega⟩)) (fun c330 => ?_) (fun c330 => ?_)
      · skip
        refine go_retq PM241 (k := 0) (r := none) (w1 := (SH, dt289)) rfl ?_
        exact ⟨dt289, rfl, hI290, hF291, ⟨rfl, ⟨by first | exact True.intro | with_reducible assumption | rfl | omega | trivial, by first | exact True.intro | with_reducible assumption | rfl | omega | trivial⟩⟩⟩
      · skip
        refine go_toq PM241 (k := 4) (pc' := 26) (L' := [some (.inr (.inr (some 79))), some (.inl p1), some (.inl l12_2)]) (st' := [.inl 0, .inl l12_2, .inr (.inr (some 79)), .inr (.inr (some 79))]) (w' := (SH, dt289)) rfl ?_
        refine go_callq PM241 PM209 (Q' := _) rfl rfl rfl rfl (sp_X6_ofAnswer_0 L xs sio (d + 6) dt289 hI290 (MW_fr hM hF291 (by decide))  l12_2 (by first | exact bnd i292 (by decide) (by decide) | exact bndd i292 c330 (by decide) (by decide) | exact ⟨by omega, by omega⟩) ) ?_
        rintro _ _ ⟨rfl, h331⟩
        refine ⟨rfl, ?_⟩
        rcases h331 with ⟨rfl, h331⟩
        refine go_toq PM241 (k := 1) (pc' := 30) (L' := [some (.inr (.inr (some 79))), some (.inl p1), some (.inl l12_2)]) (st' := [.inl 1, .inl (dt289 80 (((5540 + (6 * l12_2)) + 0)).toNat), .inr (.inr (some 79))]) (w' := (SH, dt289)) rfl ?_
        refine go_callq PM241 PM198 (Q' := _) rfl rfl rfl rfl (sp_X6_ofChild_1 L xs sio (d + 6) dt289 hI290 (MW_fr hM hF291 (by decide))  (dt289 80 (((5540 + (6 * l12_2)) + 0)).toNat) ⟨by omega, by omega⟩ ) ?_
        rintro _ _ ⟨rfl, h332⟩
        refine ⟨rfl, ?_⟩
        rcases h332 with ⟨rfl, h332⟩
        refine go_toq PM241 (k := 1) (pc' := 35) (L' := [some (.inr (.inr (some 79))), some (.inl p1), some (.inl l12_2)]) (st' := [.inl 6, .inl (dt289 80 (((5380 + (4 * (dt289 80 (((5540 + (6 * l12_2)) + 0)).toNat))) + 1)).toNat)]) (w' := (SH, dt289)) rfl ?_
        refine go_smpq PM241 (L' := [some (.inr (.inr (some 79))), some (.inl p1), some (.inl l12_2)]) (st' := [.inl ((dt289 80 (((5380 + (4 * (dt289 80 (((5540 + (6 * l12_2)) + 0)).toNat))) + 1)).toNat) / 6)]) (w' := (SH, dt289)) rfl rfl (s_idivc ⟨by omega, by omega⟩ ⟨by omega, by omega⟩) ?_
        have j361 : ∀ (j361_d : Nat → Nat → Int) (j361_hI : InvC j361_d) (j361_hF : Fr [79, 88, 89, 90, 91, 92, 93, 94, 95, 96, 97, 98, 99, 100] dt j361_d) (i362 : j361_d 79 2 = dt 79 2) (i363 : j361_d 79 12 = dt 79 12), GO (am_XX L xs sio) (d + 7) 241 95 [some (.inr (.inr (some 79))), some (.inl p1), some (.inl l12_2)] [] (SH, j361_d) (fun r w2 => ∃ dt2 : Nat → Nat → Int, w2 = (SH, dt2) ∧ InvC dt2 ∧ Fr [79, 88, 89, 90, 91, 92, 93, 94, 95, 96, 97, 98, 99, 100] dt dt2 ∧ ((r = none ∧ (dt2 79 2 = dt 79 2) ∧ (dt2 79 12 = dt 79 12)))) := by
          intro j361_d j361_hI j361_hF i362 i363
          refine go_toq PM241 (k := 2) (pc' := 12) (L' := [some (.inr (.inr (some 79))), some (.inl p1), some (.inl (l12_2 + 1))]) (st' := []) (w' := (SH, j361_d)) rfl ?_
          exact GO.le (ih_loop295 (l12_2 + 1) j361_d j361_hI j361_hF (by first | exact bndp i292 (by decide) (by decide) | exact bnde i292 c330 (by decide) (by decide) | omega) (by omega) (by omega) (by omega)) ⟨.inl rfl, .inl rfl, .inl rfl, trivial⟩
        refine go_ifq PM241 (k := 1) (p1 := 95) (p2 := 40) (L' := [some (.inr (.inr (some 79))), some (.inl p1), some (.inl l12_2)]) (st' := []) (w' := (SH, dt289)) rfl (c_ne (a := (dt289 80 (((5380 + (4 * (dt289 80 (((5540 + (6 * l12_2)) + 0)).toNat))) + 1)).toNat) / 6) (b := p1) ⟨by omega, by omega⟩ (by first | exact bnd h_p1 (by decide) (by decide) | exact ⟨by omega, by omega⟩)) (fun c364 => ?_) (fun c364 => ?_)
        · skip
          replace c364 := hid c364
          exact GO.le (j361 dt289 hI290 hF291 (by (first | omega | (have z0_ := unhid c364; omega))) (by (first | omega | (have z0_ := unhid c364; omega)))) ⟨.inl rfl, .inl rfl, .inl rfl, trivial⟩
        · skip
          refine go_toq PM241 (k := 2) (pc' := 42) (L' := [some (.inr (.inr (some 79))), some (.inl p1), some (.inl l12_2)]) (st' := [.inl l12_2, .inr (.inr (some 79))]) (w' := (SH, dt289)) rfl ?_
          refine go_callq PM241 PM229 (Q' := _) rfl rfl rfl rfl (sp_X6_isTelling L xs sio (d + 0) dt289 hI290 (MW_fr hM hF291 (by decide))  l12_2 (by first | exact bnd i292 (by decide) (by decide) | exact bndd i292 c330 (by decide) (by decide) | exact ⟨by omega, by omega⟩) ) ?_
          rintro _ _ ⟨dt366, rfl, hI367, hF368, h365⟩
          refine ⟨rfl, ?_⟩
          have hF369 : Fr [79, 88, 89, 90, 91, 92, 93, 94, 95, 96, 97, 98, 99, 100] dt dt366 := Fr_tr hF291 hF368 (by decide)
          have w370 : dt366 79 2 = dt289 79 2 := hF368 79 (by decide) 2
          have w371 : dt366 79 12 = dt289 79 12 := hF368 79 (by decide) 12
          rcases h365 with ⟨rfl, h365⟩ | ⟨rfl, h365⟩
          · skip
            have r372 : (-2147483648) ≤ dt366 79 39 ∧ dt366 79 39 ≤ 2147483647 := InvC_get hI367 79 39 rfl rfl
            refine go_toq PM241 (k := 6) (pc' := 58) (L' := [some (.inr (.inr (some 79))), some (.inl p1), some (.inl l12_2)]) (st' := [.inl ((dt366 79 39) + 1), .inr (.inr (some 79))]) (w' := (SH, dt366)) rfl ?_
            have r373 := wr_RR ((dt366 79 39) + 1)
            have hI374 : InvC (u2 dt366 79 39 (wr ((dt366 79 39) + 1))) := InvC_u2 hI367 (lo := -2147483648) (hi := 2147483647) rfl rfl rfl (by omega) (by omega)
            have hF375 : Fr [79, 88, 89, 90, 91, 92, 93, 94, 95, 96, 97, 98, 99, 100] dt (u2 dt366 79 39 (wr ((dt366 79 39) + 1))) := Fr_u2 hF369 (by decide)
            have w376 : (u2 dt366 79 39 (wr ((dt366 79 39) + 1))) 79 2 = dt366 79 2 := rfl
            have w377 : (u2 dt366 79 39 (wr ((dt366 79 39) + 1))) 79 12 = dt366 79 12 := rfl
            refine go_smpq PM241 (L' := [some (.inr (.inr (some 79))), some (.inl p1), some (.inl l12_2)]) (st' := []) (w' := (SH, (u2 dt366 79 39 (wr ((dt366 79 39) + 1))))) rfl rfl (s_pfw rfl rfl rfl rfl) ?_
            have r378 : (-2147483648) ≤ dt366 79 40 ∧ dt366 79 40 ≤ 2147483647 := InvC_get hI367 79 40 rfl rfl
            refine go_toq PM241 (k := 6) (pc' := 69) (L' := [some (.inr (.inr (some 79))), some (.inl p1), some (.inl l12_2)]) (st' := [.inl 3, .inl l12_2, .inr (.inr (some 79)), .inl (dt366 79 40), .inr (.inr (some 79))]) (w' := (SH, (u2 dt366 79 39 (wr ((dt366 79 39) + 1))))) rfl ?_
            refine go_callq PM241 PM209 (Q' := _) rfl rfl rfl rfl (sp_X6_ofAnswer_3 L xs sio (d + 6) (u2 dt366 79 39 (wr ((dt366 79 39) + 1))) hI374 (MW_fr hM hF375 (by decide))  l12_2 (by first | exact bnd i292 (by decide) (by decide) | exact bndd i292 c330 (by decide) (by decide) | exact ⟨by omega, by omega⟩) ) ?_
            rintro _ _ ⟨rfl, h379⟩
            refine ⟨rfl, ?_⟩
            rcases h379 with ⟨rfl, h379⟩
            refine go_toq PM241 (k := 4) (pc' := 76) (L' := [some (.inr (.inr (some 79))), some (.inl p1), some (.inl l12_2)]) (st' := [.inl 1, .inl l12_2, .inr (.inr (some 79)), .inr (.inr (some 79)), .inl ((u2 dt366 79 39 (wr ((dt366 79 39) + 1))) 80 (((5540 + (6 * l12_2)) + 3)).toNat), .inl (dt366 79 40), .inr (.inr (some 79))]) (w' := (SH, (u2 dt366 79 39 (wr ((dt366 79 39) + 1))))) rfl ?_
            refine go_callq PM241 PM209 (Q' := _) rfl rfl rfl rfl (sp_X6_ofAnswer_1 L xs sio (d + 6) (u2 dt366 79 39 (wr ((dt366 79 39) + 1))) hI374 (MW_fr hM hF375 (by decide))  l12_2 (by first | exact bnd i292 (by decide) (by decide) | exact bndd i292 c330 (by decide) (by decide) | exact ⟨by omega, by omega⟩) ) ?_
            rintro _ _ ⟨rfl, h380⟩
            refine ⟨rfl, ?_⟩
            rcases h380 with ⟨rfl, h380⟩
            refine go_toq PM241 (k := 1) (pc' := 80) (L' := [some (.inr (.inr (some 79))), some (.inl p1), some (.inl l12_2)]) (st' := [.inl 1, .inl ((u2 dt366 79 39 (wr ((dt366 79 39) + 1))) 80 (((5540 + (6 * l12_2)) + 1)).toNat), .inr (.inr (some 79)), .inl ((u2 dt366 79 39 (wr ((dt366 79 39) + 1))) 80 (((5540 + (6 * l12_2)) + 3)).toNat), .inl (dt366 79 40), .inr (.inr (some 79))]) (w' := (SH, (u2 dt366 79 39 (wr ((dt366 79 39) + 1))))) rfl ?_
            refine go_callq PM241 PM194 (Q' := _) rfl rfl rfl rfl (sp_X6_saysNow L xs sio (d + 5) (u2 dt366 79 39 (wr ((dt366 79 39) + 1))) hI374 (MW_fr hM hF375 (by decide))  ((u2 dt366 79 39 (wr ((dt366 79 39) + 1))) 80 (((5540 + (6 * l12_2)) + 1)).toNat) ⟨by omega, by omega⟩ 1 ⟨by decide, by decide⟩ ) ?_
            rintro _ _ ⟨rfl, h381⟩
            refine ⟨rfl, ?_⟩
            rcases h381 with ⟨v_h381, rfl, h381r, h381⟩
            refine go_ifq PM241 (k := 0) (p1 := 90) (p2 := 86) (L' := [some (.inr (.inr (some 79))), some (.inl p1), some (.inl l12_2)]) (st' := [.inl (dt366 79 40), .inr (.inr (some 79))]) (w' := (SH, (u2 dt366 79 39 (wr ((dt366 79 39) + 1))))) rfl (c_ne (a := (u2 dt366 79 39 (wr ((dt366 79 39) + 1))) 80 (((5540 + (6 * l12_2)) + 3)).toNat) (b := v_h381) ⟨by omega, by omega⟩ (by first | exact bnd h381r (by decide) (by decide) | exact ⟨by omega, by omega⟩)) (fun c383 => ?_) (fun c383 => ?_)
            · skip
              replace c383 := hid c383
              refine go_toq PM241 (k := 2) (pc' := 92) (L' := [some (.inr (.inr (some 79))), some (.inl p1), some (.inl l12_2)]) (st' := [.inl ((dt366 79 40) + 0), .inr (.inr (some 79))]) (w' := (SH, (u2 dt366 79 39 (wr ((dt366 79 39) + 1))))) rfl ?_
              have hI384 : InvC (u2 (u2 dt366 79 39 (wr ((dt366 79 39) + 1))) 79 40 ((dt366 79 40) + 0)) := InvC_u2 hI374 (lo := -2147483648) (hi := 2147483647) rfl rfl rfl (by (first | omega | (have z0_ := unhid c383; omega))) (by (first | omega | (have z0_ := unhid c383; omega)))
              have hF385 : Fr [79, 88, 89, 90, 91, 92, 93, 94, 95, 96, 97, 98, 99, 100] dt (u2 (u2 dt366 79 39 (wr ((dt366 79 39) + 1))) 79 40 ((dt366 79 40) + 0)) := Fr_u2 hF375 (by decide)
              have w386 : (u2 (u2 dt366 79 39 (wr ((dt366 79 39) + 1))) 79 40 ((dt366 79 40) + 0)) 79 2 = (u2 dt366 79 39 (wr ((dt366 79 39) + 1))) 79 2 := rfl
              have w387 : (u2 (u2 dt366 79 39 (wr ((dt366 79 39) + 1))) 79 40 ((dt366 79 40) + 0)) 79 12 = (u2 dt366 79 39 (wr ((dt366 79 39) + 1))) 79 12 := rfl
              refine go_smpq PM241 (L' := [some (.inr (.inr (some 79))), some (.inl p1), some (.inl l12_2)]) (st' := []) (w' := (SH, (u2 (u2 dt366 79 39 (wr ((dt366 79 39) + 1))) 79 40 ((dt366 79 40) + 0)))) rfl rfl (s_pf rfl rfl rfl rfl (by first | exact bndp r378 (by decide) (by decide) | exact ⟨by (first | omega | (have z0_ := unhid c383; omega)), by (first | omega | (have z0_ := unhid c383; omega))⟩)) ?_
              exact GO.le (j361 (u2 (u2 dt366 79 39 (wr ((dt366 79 39) + 1))) 79 40 ((dt366 79 40) + 0)) hI384 hF385 (by (first | omega | (have z0_ := unhid c383; omega))) (by (first | omega | (have z0_ := unhid c383; omega)))) ⟨.inl rfl, .inl rfl, .inl rfl, trivial⟩
            · skip
              refine go_toq PM241 (k := 3) (pc' := 92) (L' := [some (.inr (.inr (some 79))), some (.inl p1), some (.inl l12_2)]) (st' := [.inl ((dt366 79 40) + 1), .inr (.inr (some 79))]) (w' := (SH, (u2 dt366 79 39 (wr ((dt366 79 39) + 1))))) rfl ?_
              have r388 := wr_RR ((dt366 79 40) + 1)
              have hI389 : InvC (u2 (u2 dt366 79 39 (wr ((dt366 79 39) + 1))) 79 40 (wr ((dt366 79 40) + 1))) := InvC_u2 hI374 (lo := -2147483648) (hi := 2147483647) rfl rfl rfl (by omega) (by omega)
              have hF390 : Fr [79, 88, 89, 90, 91, 92, 93, 94, 95, 96, 97, 98, 99, 100] dt (u2 (u2 dt366 79 39 (wr ((dt366 79 39) + 1))) 79 40 (wr ((dt366 79 40) + 1))) := Fr_u2 hF375 (by decide)
              have w391 : (u2 (u2 dt366 79 39 (wr ((dt366 79 39) + 1))) 79 40 (wr ((dt366 79 40) + 1))) 79 2 = (u2 dt366 79 39 (wr ((dt366 79 39) + 1))) 79 2 := rfl
              have w392 : (u2 (u2 dt366 79 39 (wr ((dt366 79 39) + 1))) 79 40 (wr ((dt366 79 40) + 1))) 79 12 = (u2 dt366 79 39 (wr ((dt366 79 39) + 1))) 79 12 := rfl
              refine go_smpq PM241 (L' := [some (.inr (.inr (some 79))), some (.inl p1), some (.inl l12_2)]) (st' := []) (w' := (SH, (u2 (u2 dt366 79 39 (wr ((dt366 79 39) + 1))) 79 40 (wr ((dt366 79 40) + 1))))) rfl rfl (s_pfw rfl rfl rfl rfl) ?_
              exact GO.le (j361 (u2 (u2 dt366 79 39 (wr ((dt366 79 39) + 1))) 79 40 (wr ((dt366 79 40) + 1))) hI389 hF390 (by omega) (by omega)) ⟨.inl rfl, .inl rfl, .inl rfl, trivial⟩
          · skip
            refine go_toq PM241 (k := 2) (pc' := 95) (L' := [some (.inr (.inr (some 79))), some (.inl p1), some (.inl l12_2)]) (st' := []) (w' := (SH, dt366)) rfl ?_
            exact GO.le (j361 dt366 hI367 hF369 (by omega) (by omega)) ⟨.inl rfl, .inl rfl, .inl rfl, trivial⟩
  exact GO.le (loop295 _ 0 (u2 (u2 dt 79 39 0) 79 40 0) hI5 hF6 ⟨by decide, by decide⟩ (by omega) (by omega) (Nat.lt_succ_self _)) ⟨.inl rfl, .inl rfl, .inl rfl, trivial⟩
set_option maxRecDepth 20000 in
theorem sp_X6_curve_k (L : Nat) (xs : Nat → Int32) (sio : Option Nat) (d : Nat) (dt : Nat → Nat → Int) (hI : InvC dt) (hM : MW (dt 80))  (p1 : Int) (h_p1 : (-2147483648) ≤ p1 ∧ p1 ≤ 2147483647) (p2 : Int) (h_p2 : (-2147483648) ≤ p2 ∧ p2 ≤ 2147483647)  : GO (am_XX L xs sio) (d + 8) 242 0 [some (.inr (.inr (some 79))), some (.inl p1), some (.inl p2), none, none] [] (SH, dt) (fun r w2 => ∃ dt2 : Nat → Nat → Int, w2 = (SH, dt2) ∧ InvC dt2 ∧ Fr [79, 88, 89, 90, 91, 92, 93, 94, 95, 96, 97, 98, 99, 100] dt dt2 ∧ ((∃ v : Int, r = some (.inl v) ∧ ((-2147483648) ≤ v ∧ v ≤ 2147483647) ∧ (dt2 79 2 = dt 79 2) ∧ (dt2 79 12 = dt 79 12)))) := by
  have hF : Fr [79, 88, 89, 90, 91, 92, 93, 94, 95, 96, 97, 98, 99, 100] dt dt := Fr_refl
  refine go_ifq PM242 (k := 2) (p1 := 58) (p2 := 5) (L' := [some (.inr (.inr (some 79))), some (.inl p1), some (.inl p2), none, none]) (st' := []) (w' := (SH, dt)) rfl (c_ne (a := p1) (b := (-1)) (by first | exact bnd h_p1 (by decide) (by decide) | exact ⟨by omega, by omega⟩) ⟨by decide, by decide⟩) (fun c1 => ?_) (fun c1 => ?_)
  · skip
    replace c1 := hid c1
    refine go_toq PM242 (k := 3) (pc' := 62) (L' := [some (.inr (.inr (some 79))), some (.inl p1), some (.inl p2), none, none]) (st' := [.inl 20, .inl 0, .inl p1]) (w' := (SH, dt)) rfl ?_
    refine go_callq PM242 PM146 (Q' := _) rfl rfl rfl rfl (sp_X6_isIn L xs sio (d + 7) dt hI  p1 (by first | exact h_p1 | exact bnd h_p1 (by decide) (by decide) | exact ⟨by (first | omega | (have z0_ := unhid c1; omega)), by (first | omega | (have z0_ := unhid c1; omega))⟩) 0 ⟨by decide, by decide⟩ 20 ⟨by decide, by decide⟩ ) ?_
    rintro _ _ ⟨rfl, h2⟩
    refine ⟨rfl, ?_⟩
    rcases h2 with ⟨rfl, h2⟩ | ⟨rfl, h2⟩
    · skip
      refine go_toq PM242 (k := 4) (pc' := 71) (L' := [some (.inr (.inr (some 79))), some (.inl p1), some (.inl p2), none, none]) (st' := [.inl 1, .inl 0, .inl p2]) (w' := (SH, dt)) rfl ?_
      refine go_callq PM242 PM146 (Q' := _) rfl rfl rfl rfl (sp_X6_isIn L xs sio (d + 7) dt hI  p2 (by first | exact h_p2 | exact bnd h_p2 (by decide) (by decide) | exact ⟨by (first | omega | (have z0_ := unhid c1; omega)), by (first | omega | (have z0_ := unhid c1; omega))⟩) 0 ⟨by decide, by decide⟩ 1 ⟨by decide, by decide⟩ ) ?_
      rintro _ _ ⟨rfl, h3⟩
      refine ⟨rfl, ?_⟩
      rcases h3 with ⟨rfl, h3⟩ | ⟨rfl, h3⟩
      · skip
        refine go_toq PM242 (k := 3) (pc' := 82) (L' := [some (.inr (.inr (some 79))), some (.inl p1), some (.inl p2), none, none]) (st' := [.inl p1, .inr (.inr (some 79))]) (w' := (SH, dt)) rfl ?_
        refine go_callq PM242 PM241 (Q' := _) rfl rfl rfl rfl (sp_X6_curves_k L xs sio (d + 0) dt hI hM  p1 (by first | exact h_p1 | exact bnd h_p1 (by decide) (by decide) | exact ⟨by (first | omega | (have z0_ := unhid c1; omega)), by (first | omega | (have z0_ := unhid c1; omega))⟩) ) ?_
        rintro _ _ ⟨dt5, rfl, hI6, hF7, h4⟩
        refine ⟨rfl, ?_⟩
        have hF8 : Fr [79, 88, 89, 90, 91, 92, 93, 94, 95, 96, 97, 98, 99, 100] dt dt5 := Fr_tr hF hF7 (by decide)
        rcases h4 with ⟨rfl, h4⟩
        have j12 : ∀ (j12_s0 : Int) (i13 : (-2147483648) ≤ j12_s0 ∧ j12_s0 ≤ 2147483647), GO (am_XX L xs sio) (d + 8) 242 100 [some (.inr (.inr (some 79))), none, none, none, none] [.inl j12_s0] (SH, dt5) (fun r w2 => ∃ dt2 : Nat → Nat → Int, w2 = (SH, dt2) ∧ InvC dt2 ∧ Fr [79, 88, 89, 90, 91, 92, 93, 94, 95, 96, 97, 98, 99, 100] dt dt2 ∧ ((∃ v : Int, r = some (.inl v) ∧ ((-2147483648) ≤ v ∧ v ≤ 2147483647) ∧ (dt2 79 2 = dt 79 2) ∧ (dt2 79 12 = dt 79 12)))) := by
          intro j12_s0 i13
          refine go_retq PM242 (k := 0) (r := some (.inl j12_s0)) (w1 := (SH, dt5)) rfl ?_
          exact ⟨dt5, rfl, hI6, hF8, ⟨_, rfl, (by first | exact bnd i13 (by decide) (by decide) | exact ⟨by (first | omega | (have z0_ := unhid c1; omega)), by (first | omega | (have z0_ := unhid c1; omega))⟩), ⟨by first | exact True.intro | with_reducible assumption | exact unhid (by with_reducible assumption) | rfl | (first | omega | (have z0_ := unhid c1; omega)) | trivial, by first | exact True.intro | with_reducible assumption | exact unhid (by with_reducible assumption) | rfl | (first | omega | (have z0_ := unhid c1; omega)) | trivial⟩⟩⟩
        refine go_ifq PM242 (k := 1) (p1 := 96) (p2 := 89) (L' := [some (.inr (.inr (some 79))), some (.inl p1), some (.inl p2), none, none]) (st' := []) (w' := (SH, dt5)) rfl (z_ne (a := p2) (by first | exact bnd h_p2 (by decide) (by decide) | exact ⟨by (first | omega | (have z0_ := unhid c1; omega)), by (first | omega | (have z0_ := unhid c1; omega))⟩)) (fun c14 => ?_) (fun c14 => ?_)
        · skip
          replace c14 := hid c14
          have r15 : (-2147483648) ≤ dt5 79 40 ∧ dt5 79 40 ≤ 2147483647 := InvC_get hI6 79 40 rfl rfl
          refine go_toq PM242 (k := 2) (pc' := 100) (L' := [some (.inr (.inr (some 79))), some (.inl p1), some (.inl p2), none, none]) (st' := [.inl (dt5 79 40)]) (w' := (SH, dt5)) rfl ?_
          exact GO.le (j12 (dt5 79 40) (by first | exact bnd r15 (by decide) (by decide) | (first | omega | (have z0_ := unhid c1; have z1_ := unhid c14; omega)))) ⟨.inl rfl, .inr ⟨rfl, trivial⟩, .inr ⟨rfl, trivial⟩, .inl rfl, .inl rfl, trivial⟩
        · skip
          have r16 : (-2147483648) ≤ dt5 79 39 ∧ dt5 79 39 ≤ 2147483647 := InvC_get hI6 79 39 rfl rfl
          refine go_toq PM242 (k := 3) (pc' := 100) (L' := [some (.inr (.inr (some 79))), some (.inl p1), some (.inl p2), none, none]) (st' := [.inl (dt5 79 39)]) (w' := (SH, dt5)) rfl ?_
          exact GO.le (j12 (dt5 79 39) (by first | exact bnd r16 (by decide) (by decide) | (first | omega | (have z0_ := unhid c1; omega)))) ⟨.inl rfl, .inr ⟨rfl, trivial⟩, .inr ⟨rfl, trivial⟩, .inl rfl, .inl rfl, trivial⟩
      · skip
        refine go_retq PM242 (k := 2) (r := some (.inl (-2))) (w1 := (SH, dt)) rfl ?_
        exact ⟨dt, rfl, hI, hF, ⟨_, rfl, ⟨by decide, by decide⟩, ⟨by first | exact True.intro | with_reducible assumption | exact unhid (by with_reducible assumption) | rfl | (first | omega | (have z0_ := unhid c1; omega)) | trivial, by first | exact True.intro | with_reducible assumption | exact unhid (by with_reducible assumption) | rfl | (first | omega | (have z0_ := unhid c1; omega)) | trivial⟩⟩⟩
    · skip
      refine go_retq PM242 (k := 2) (r := some (.inl (-2))) (w1 := (SH, dt)) rfl ?_
      exact ⟨dt, rfl, hI, hF, ⟨_, rfl, ⟨by decide, by decide⟩, ⟨by first | exact True.intro | with_reducible assumption | exact unhid (by with_reducible assumption) | rfl | (first | omega | (have z0_ := unhid c1; omega)) | trivial, by first | exact True.intro | with_reducible assumption | exact unhid (by with_reducible assumption) | rfl | (first | omega | (have z0_ := unhid c1; omega)) | trivial⟩⟩⟩
  · skip
    refine go_toq PM242 (k := 4) (pc' := 11) (L' := [some (.inr (.inr (some 79))), some (.inl p1), some (.inl p2), some (.inl (-1)), some (.inl 20)]) (st' := []) (w' := (SH, dt)) rfl ?_
    have loop141 : ∀ (k_ : Nat) (l11_3 : Int) (l11_4 : Int) (dt134 : Nat → Nat → Int) (hI135 : InvC dt134) (hF136 : Fr [79, 88, 89, 90, 91, 92, 93, 94, 95, 96, 97, 98, 99, 100] dt dt134) (i137 : (-1) ≤ l11_3 ∧ l11_3 ≤ 20) (i138 : (-1) ≤ l11_4 ∧ l11_4 ≤ 20) (i139 : dt134 79 2 = dt 79 2) (i140 : dt134 79 12 = dt 79 12), (l11_4 + 2).toNat < k_ → GO (am_XX L xs sio) (d + 8) 242 11 [some (.inr (.inr (some 79))), none, none, some (.inl l11_3), some (.inl l11_4)] [] (SH, dt134) (fun r w2 => ∃ dt2 : Nat → Nat → Int, w2 = (SH, dt2) ∧ InvC dt2 ∧ Fr [79, 88, 89, 90, 91, 92, 93, 94, 95, 96, 97, 98, 99, 100] dt dt2 ∧ ((∃ v : Int, r = some (.inl v) ∧ ((-2147483648) ≤ v ∧ v ≤ 2147483647) ∧ (dt2 79 2 = dt 79 2) ∧ (dt2 79 12 = dt 79 12)))) := by
      intro k_
      induction k_ with
      | zero => intro l11_3 l11_4 dt134 hI135 hF136 i137 i138 i139 i140 hm; exact absurd hm (Nat.not_lt_zero _)
      | succ k_ ih_loop141 =>
        intro l11_3 l11_4 dt134 hI135 hF136 i137 i138 i139 i140 hm
        refine go_ifq PM242 (k := 1) (p1 := 56) (p2 := 16) (L' := [some (.inr (.inr (some 79))), none, none, some (.inl l11_3), some (.inl l11_4)]) (st' := []) (w' := (SH, dt134)) rfl (z_lt (a := l11_4) (by first | exact bnd i138 (by decide) (by decide) | exact ⟨by omega, by omega⟩)) (fun c142 => ?_) (fun c142 => ?_)
        · skip
          refine go_retq PM242 (k := 1) (r := some (.inl l11_3)) (w1 := (SH, dt134)) rfl ?_
          exact ⟨dt134, rfl, hI135, hF136, ⟨_, rfl, (by first | exact bnd i137 (by decide) (by decide) | exact ⟨by omega, by omega⟩), ⟨by first | exact True.intro | with_reducible assumption | rfl | omega | trivial, by first | exact True.intro | with_reducible assumption | rfl | omega | trivial⟩⟩⟩
        · skip
          refine go_toq PM242 (k := 2) (pc' := 19) (L' := [some (.inr (.inr (some 79))), none, none, some (.inl l11_3), some (.inl l11_4)]) (st' := [.inl l11_4, .inr (.inr (some 79))]) (w' := (SH, dt134)) rfl ?_
          refine go_callq PM242 PM241 (Q' := _) rfl rfl rfl rfl (sp_X6_curves_k L xs sio (d + 0) dt134 hI135 (MW_fr hM hF136 (by decide))  l11_4 (by first | exact bnd i138 (by decide) (by decide) | exact ⟨by omega, by omega⟩) ) ?_
          rintro _ _ ⟨dt144, rfl, hI145, hF146, h143⟩
          refine ⟨rfl, ?_⟩
          have hF147 : Fr [79, 88, 89, 90, 91, 92, 93, 94, 95, 96, 97, 98, 99, 100] dt dt144 := Fr_tr hF136 hF146 (by decide)
          rcases h143 with ⟨rfl, h143⟩
          have r148 : (-2147483648) ≤ dt144 79 39 ∧ dt144 79 39 ≤ 2147483647 := InvC_get hI145 79 39 rfl rfl
          refine go_ifq PM242 (k := 2) (p1 := 32) (p2 := 29) (L' := [some (.inr (.inr (some 79))), none, none, some (.inl l11_3), some (.inl l11_4)]) (st' := []) (w' := (SH, dt144)) rfl (z_ne (a := dt144 79 39) (by first | exact bnd r148 (by decide) (by decide) | exact ⟨by omega, by omega⟩)) (fun c149 => ?_) (fun c149 => ?_)
          · skip
            replace c149 := hid c149
            have r150 : (-2147483648) ≤ dt144 79 40 ∧ dt144 79 40 ≤ 2147483647 := InvC_get hI145 79 40 rfl rfl
            have r152 := wr_RR (2 * (dt144 79 40))
            have r153 := wr_RR (dt144 79 39)
            refine go_ifq PM242 (k := 6) (p1 := 47) (p2 := 45) (L' := [some (.inr (.inr (some 79))), none, none, some (.inl l11_3), some (.inl l11_4)]) (st' := []) (w' := (SH, dt144)) rfl (u_ge (a := wr (2 * (dt144 79 40))) (b := wr (dt144 79 39))) (fun c151 => ?_) (fun c151 => ?_)
            · skip
              refine go_toq PM242 (k := 4) (pc' := 11) (L' := [some (.inr (.inr (some 79))), none, none, some (.inl l11_4), some (.inl (l11_4 + (-1)))]) (st' := []) (w' := (SH, dt144)) rfl ?_
              exact GO.le (ih_loop141 l11_4 (l11_4 + (-1)) dt144 hI145 hF147 (by first | exact bnd i138 (by decide) (by decide) | (first | omega | (have z0_ := unhid c149; omega))) (by (first | omega | (have z0_ := unhid c149; omega))) (by (first | omega | (have z0_ := unhid c149; omega))) (by (first | omega | (have z0_ := unhid c149; omega))) (by (first | omega | (have z0_ := unhid c149; omega)))) ⟨.inl rfl, .inl rfl, .inl rfl, .inl rfl, .inl rfl, trivial⟩
            · skip
              refine go_retq PM242 (k := 1) (r := some (.inl l11_3)) (w1 := (SH, dt144)) rfl ?_
              exact ⟨dt144, rfl, hI145, hF147, ⟨_, rfl, (by first | exact bnd i137 (by decide) (by decide) | exact ⟨by (first | omega | (have z0_ := unhid c149; omega)), by (first | omega | (have z0_ := unhid c149; omega))⟩), ⟨by first | exact True.intro | with_reducible assumption | exact unhid (by with_reducible assumption) | rfl | (first | omega | (have z0_ := unhid c149; omega)) | trivial, by first | exact True.intro | with_reducible assumption | exact unhid (by with_reducible assumption) | rfl | (first | omega | (have z0_ := unhid c149; omega)) | trivial⟩⟩⟩
          · skip
            refine go_toq PM242 (k := 3) (pc' := 11) (L' := [some (.inr (.inr (some 79))), none, none, some (.inl l11_3), some (.inl (l11_4 + (-1)))]) (st' := []) (w' := (SH, dt144)) rfl ?_
            exact GO.le (ih_loop141 l11_3 (l11_4 + (-1)) dt144 hI145 hF147 (by first | exact bnd i137 (by decide) (by decide) | omega) (by omega) (by omega) (by omega) (by omega)) ⟨.inl rfl, .inl rfl, .inl rfl, .inl rfl, .inl rfl, trivial⟩
    exact GO.le (loop141 _ (-1) 20 dt hI hF ⟨by decide, by decide⟩ ⟨by decide, by decide⟩ (by omega) (by omega) (Nat.lt_succ_self _)) ⟨.inl rfl, .inr ⟨rfl, trivial⟩, .inr ⟨rfl, trivial⟩, .inl rfl, .inl rfl, trivial⟩
set_option maxRecDepth 20000 in
theorem sp_X6_image_1u (L : Nat) (xs : Nat → Int32) (sio : Option Nat) (d : Nat) (dt : Nat → Nat → Int) (hI : InvC dt) (hM : MW (dt 80))    : GO (am_XX L xs sio) (d) 247 0 [some (.inr (.inr (some 79))), some (.inl 1), none] [] (SH, dt) (fun r w2 => ∃ dt2 : Nat → Nat → Int, w2 = (SH, dt2) ∧ InvC dt2 ∧ Fr [79, 81] dt dt2 ∧ ((r = some (.inl 1) ∧ (dt2 79 2 = 1) ∧ (MW (dt2 80)) ∧ (MW (dt2 81)) ∧ (∀ j, j < 6 → dt2 80 j = dt 80 j) ∧ (∀ j, j < 6 → dt2 81 j = dt 80 j) ∧ (∀ j : Nat, j < 7460 → dt2 80 j = dt 80 j) ∧ (∀ j : Nat, j < 7460 → dt2 81 j = dt 80 j) ∧ (dt2 79 12 = dt 79 12)))) := by
  have hF : Fr [79, 81] dt dt := Fr_refl
  refine go_toq PM247 (k := 4) (pc' := 15) (L' := [some (.inr (.inr (some 79))), some (.inl 1), some (.inl 0)]) (st' := []) (w' := (SH, dt)) rfl ?_
  have loop61 : ∀ (k_ : Nat) (l15_2 : Int) (dt55 : Nat → Nat → Int) (hI56 : InvC dt55) (hF57 : Fr [79, 81] dt dt55) (i58 : 0 ≤ l15_2 ∧ l15_2 ≤ 7460) (i59 : ∀ j : Nat, (j : Int) < l15_2 → dt55 81 j = dt 80 j) (i60 : dt55 79 12 = dt 79 12), (7461 - l15_2).toNat < k_ → GO (am_XX L xs sio) (d) 247 15 [some (.inr (.inr (some 79))), some (.inl 1), some (.inl l15_2)] [] (SH, dt55) (fun r w2 => ∃ dt2 : Nat → Nat → Int, w2 = (SH, dt2) ∧ InvC dt2 ∧ Fr [79, 81] dt dt2 ∧ ((r = some (.inl 1) ∧ (dt2 79 2 = 1) ∧ (MW (dt2 80)) ∧ (MW (dt2 81)) ∧ (∀ j, j < 6 → dt2 80 j = dt 80 j) ∧ (∀ j, j < 6 → dt2 81 j = dt 80 j) ∧ (∀ j : Nat, j < 7460 → dt2 80 j = dt 80 j) ∧ (∀ j : Nat, j < 7460 → dt2 81 j = dt 80 j) ∧ (dt2 79 12 = dt 79 12)))) := by
    intro k_
    induction k_ with
    | zero => intro l15_2 dt55 hI56 hF57 i58 i59 i60 hm; exact absurd hm (Nat.not_lt_zero _)
    | succ k_ ih_loop61 =>
      intro l15_2 dt55 hI56 hF57 i58 i59 i60 hm
      refine go_ifq PM247 (k := 2) (p1 := 59) (p2 := 22) (L' := [some (.inr (.inr (some 79))), some (.inl 1), some (.inl l15_2)]) (st' := []) (w' := (SH, dt55)) rfl (c_ge (a := l15_2) (b := 7460) (by first | exact bnd i58 (by decide) (by decide) | exact ⟨by omega, by omega⟩) ⟨by decide, by decide⟩) (fun c62 => ?_) (fun c62 => ?_)
      · skip
        refine go_toq PM247 (k := 2) (pc' := 61) (L' := [some (.inr (.inr (some 79))), some (.inl 1), some (.inl l15_2)]) (st' := [.inl 1, .inr (.inr (some 79))]) (w' := (SH, dt55)) rfl ?_
        have hI63 : InvC (u2 dt55 79 2 1) := InvC_u2 hI56 (lo := 0) (hi := 1) rfl rfl rfl (by decide) (by decide)
        have hF64 : Fr [79, 81] dt (u2 dt55 79 2 1) := Fr_u2 hF57 (by decide)
        have w65 : (u2 dt55 79 2 1) 79 12 = dt55 79 12 := rfl
        refine go_smpq PM247 (L' := [some (.inr (.inr (some 79))), some (.inl 1), some (.inl l15_2)]) (st' := []) (w' := (SH, (u2 dt55 79 2 1))) rfl rfl (s_pfz rfl rfl rfl rfl (by omega)) ?_
        refine go_retq PM247 (k := 1) (r := some (.inl 1)) (w1 := (SH, (u2 dt55 79 2 1))) rfl ?_
        exact ⟨(u2 dt55 79 2 1), rfl, hI63, hF64, ⟨rfl, ⟨by rfl, by exact MW_frk hM (by assumption) (by decide), by exact im_mw hM (by assumption) (by omega), by exact fun j _ => fr_at (by assumption) (by decide) j, by exact im_6 (by assumption) (by omega), by exact fun j _ => fr_at (by assumption) (by decide) j, by exact im_all (by assumption) (by omega), by first | exact True.intro | with_reducible assumption | rfl | omega | trivial⟩⟩⟩
      · skip
        refine go_toq PM247 (k := 8) (pc' := 36) (L' := [some (.inr (.inr (some 79))), some (.inl 1), some (.inl l15_2)]) (st' := [.inl l15_2, .inr (.inr (some 80)), .inl l15_2, .inr (.inr (some 81))]) (w' := (SH, dt55)) rfl ?_
        have r66 : (-2147483648) ≤ dt 80 (l15_2).toNat ∧ dt 80 (l15_2).toNat ≤ 2147483647 := InvC_get hI 80 (l15_2).toNat rfl rfl
        refine go_smpq PM247 (L' := [some (.inr (.inr (some 79))), some (.inl 1), some (.inl l15_2)]) (st' := [.inl (dt 80 (l15_2).toNat), .inl l15_2, .inr (.inr (some 81))]) (w' := (SH, dt55)) rfl rfl (s_ev (s_iald (n := 7460) (f := dt55 80) rfl (by first | exact bndc i58 c62 (by decide) (by decide) | exact bndx i58 (by decide) (by decide) | exact ⟨by omega, by omega⟩)) (hF57 80 (by decide) _)) ?_
        have hI67 : InvC (u2 dt55 81 (l15_2).toNat (dt 80 (l15_2).toNat)) := InvC_u2 hI56 (lo := -2147483648) (hi := 2147483647) rfl rfl rfl (by first | exact bnd1 r66 (by decide) | omega) (by first | exact bnd2 r66 (by decide) | omega)
        have hF68 : Fr [79, 81] dt (u2 dt55 81 (l15_2).toNat (dt 80 (l15_2).toNat)) := Fr_u2 hF57 (by decide)
        have w69 : (u2 dt55 81 (l15_2).toNat (dt 80 (l15_2).toNat)) 79 12 = dt55 79 12 := rfl
        refine go_smpq PM247 (L' := [some (.inr (.inr (some 79))), some (.inl 1), some (.inl l15_2)]) (st' := []) (w' := (SH, (u2 dt55 81 (l15_2).toNat (dt 80 (l15_2).toNat)))) rfl rfl (s_iast (n := 7460) rfl (by first | exact bndc i58 c62 (by decide) (by decide) | exact bndx i58 (by decide) (by decide) | exact ⟨by omega, by omega⟩) (by first | exact bnd r66 (by decide) (by decide) | exact ⟨by omega, by omega⟩)) ?_
        refine go_toq PM247 (k := 3) (pc' := 15) (L' := [some (.inr (.inr (some 79))), some (.inl 1), some (.inl (l15_2 + 1))]) (st' := []) (w' := (SH, (u2 dt55 81 (l15_2).toNat (dt 80 (l15_2).toNat)))) rfl ?_
        exact GO.le (ih_loop61 (l15_2 + 1) (u2 dt55 81 (l15_2).toNat (dt 80 (l15_2).toNat)) hI67 hF68 (by first | with_reducible assumption | omega | exact im_0 | exact im_step (by assumption) (by omega) rfl) (by first | with_reducible assumption | omega | exact im_0 | exact im_step (by assumption) (by omega) rfl) (by first | with_reducible assumption | omega | exact im_0 | exact im_step (by assumption) (by omega) rfl) (by omega)) ⟨.inl rfl, .inl rfl, .inl rfl, trivial⟩
  exact GO.le (loop61 _ 0 dt hI hF (by first | with_reducible assumption | omega | exact im_0 | exact im_step (by assumption) (by omega) rfl) (by first | with_reducible assumption | omega | exact im_0 | exact im_step (by assumption) (by omega) rfl) (by first | with_reducible assumption | omega | exact im_0 | exact im_step (by assumption) (by omega) rfl) (Nat.lt_succ_self _)) ⟨.inl rfl, .inl rfl, .inl rfl, trivial⟩
set_option maxRecDepth 20000 in
theorem sp_X6_image_0u (L : Nat) (xs : Nat → Int32) (sio : Option Nat) (d : Nat) (dt : Nat → Nat → Int) (hI : InvC dt) (hM : MW (dt 80))   (h_p0 : MW (dt 81)) : GO (am_XX L xs sio) (d) 247 0 [some (.inr (.inr (some 79))), some (.inl 0), none] [] (SH, dt) (fun r w2 => ∃ dt2 : Nat → Nat → Int, w2 = (SH, dt2) ∧ InvC dt2 ∧ Fr [79, 80] dt dt2 ∧ ((r = some (.inl 0) ∧ (dt 79 2 = 0) ∧ (dt2 79 2 = 0) ∧ (MW (dt2 80)) ∧ (MW (dt2 81)) ∧ (∀ j, j < 6 → dt2 80 j = dt 80 j) ∧ (∀ j, j < 6 → dt2 81 j = dt 81 j) ∧ (∀ j : Nat, j < 7460 → dt2 80 j = dt 80 j) ∧ (∀ j : Nat, j < 7460 → dt2 81 j = dt 81 j) ∧ (dt2 79 12 = dt 79 12)) ∨ (r = some (.inl 1) ∧ (¬ dt 79 2 = 0) ∧ (dt2 79 2 = 1) ∧ (MW (dt2 80)) ∧ (MW (dt2 81)) ∧ (∀ j, j < 6 → dt2 80 j = dt 81 j) ∧ (∀ j, j < 6 → dt2 81 j = dt 81 j) ∧ (∀ j : Nat, j < 7460 → dt2 80 j = dt 81 j) ∧ (∀ j : Nat, j < 7460 → dt2 81 j = dt 81 j) ∧ (dt2 79 12 = dt 79 12)))) := by
  have hF : Fr [79, 80] dt dt := Fr_refl
  have r1 : 0 ≤ dt 79 2 ∧ dt 79 2 ≤ 1 := InvC_get hI 79 2 rfl rfl
  refine go_ifq PM247 (k := 4) (p1 := 13) (p2 := 11) (L' := [some (.inr (.inr (some 79))), some (.inl 0), none]) (st' := []) (w' := (SH, dt)) rfl (z_ne (a := dt 79 2) (by first | exact bnd r1 (by decide) (by decide) | exact ⟨by omega, by omega⟩)) (fun c2 => ?_) (fun c2 => ?_)
  · skip
    have qc2 : 1 ≤ dt 79 2 := by omega
    replace c2 := hid c2
    refine go_toq PM247 (k := 2) (pc' := 15) (L' := [some (.inr (.inr (some 79))), some (.inl 0), some (.inl 0)]) (st' := []) (w' := (SH, dt)) rfl ?_
    have loop63 : ∀ (k_ : Nat) (l15_2 : Int) (dt57 : Nat → Nat → Int) (hI58 : InvC dt57) (hF59 : Fr [79, 80] dt dt57) (i60 : 0 ≤ l15_2 ∧ l15_2 ≤ 7460) (i61 : ∀ j : Nat, (j : Int) < l15_2 → dt57 80 j = dt 81 j) (i62 : dt57 79 12 = dt 79 12), (7461 - l15_2).toNat < k_ → GO (am_XX L xs sio) (d) 247 15 [some (.inr (.inr (some 79))), some (.inl 0), some (.inl l15_2)] [] (SH, dt57) (fun r w2 => ∃ dt2 : Nat → Nat → Int, w2 = (SH, dt2) ∧ InvC dt2 ∧ Fr [79, 80] dt dt2 ∧ ((r = some (.inl 0) ∧ (dt 79 2 = 0) ∧ (dt2 79 2 = 0) ∧ (MW (dt2 80)) ∧ (MW (dt2 81)) ∧ (∀ j, j < 6 → dt2 80 j = dt 80 j) ∧ (∀ j, j < 6 → dt2 81 j = dt 81 j) ∧ (∀ j : Nat, j < 7460 → dt2 80 j = dt 80 j) ∧ (∀ j : Nat, j < 7460 → dt2 81 j = dt 81 j) ∧ (dt2 79 12 = dt 79 12)) ∨ (r = some (.inl 1) ∧ (¬ dt 79 2 = 0) ∧ (dt2 79 2 = 1) ∧ (MW (dt2 80)) ∧ (MW (dt2 81)) ∧ (∀ j, j < 6 → dt2 80 j = dt 81 j) ∧ (∀ j, j < 6 → dt2 81 j = dt 81 j) ∧ (∀ j : Nat, j < 7460 → dt2 80 j = dt 81 j) ∧ (∀ j : Nat, j < 7460 → dt2 81 j = dt 81 j) ∧ (dt2 79 12 = dt 79 12)))) := by
      intro k_
      induction k_ with
      | zero => intro l15_2 dt57 hI58 hF59 i60 i61 i62 hm; exact absurd hm (Nat.not_lt_zero _)
      | succ k_ ih_loop63 =>
        intro l15_2 dt57 hI58 hF59 i60 i61 i62 hm
        refine go_ifq PM247 (k := 2) (p1 := 59) (p2 := 22) (L' := [some (.inr (.inr (some 79))), some (.inl 0), some (.inl l15_2)]) (st' := []) (w' := (SH, dt57)) rfl (c_ge (a := l15_2) (b := 7460) (by first | exact bnd i60 (by decide) (by decide) | exact ⟨by (first | omega | (have z0_ := unhid c2; omega)), by (first | omega | (have z0_ := unhid c2; omega))⟩) ⟨by decide, by decide⟩) (fun c64 => ?_) (fun c64 => ?_)
        · skip
          refine go_toq PM247 (k := 2) (pc' := 61) (L' := [some (.inr (.inr (some 79))), some (.inl 0), some (.inl l15_2)]) (st' := [.inl 1, .inr (.inr (some 79))]) (w' := (SH, dt57)) rfl ?_
          have hI65 : InvC (u2 dt57 79 2 1) := InvC_u2 hI58 (lo := 0) (hi := 1) rfl rfl rfl (by decide) (by decide)
          have hF66 : Fr [79, 80] dt (u2 dt57 79 2 1) := Fr_u2 hF59 (by decide)
          have w67 : (u2 dt57 79 2 1) 79 12 = dt57 79 12 := rfl
          refine go_smpq PM247 (L' := [some (.inr (.inr (some 79))), some (.inl 0), some (.inl l15_2)]) (st' := []) (w' := (SH, (u2 dt57 79 2 1))) rfl rfl (s_pfz rfl rfl rfl rfl (by (first | omega | (have z0_ := unhid c2; omega)))) ?_
          refine go_retq PM247 (k := 1) (r := some (.inl 1)) (w1 := (SH, (u2 dt57 79 2 1))) rfl ?_
          exact ⟨(u2 dt57 79 2 1), rfl, hI65, hF66, (Or.inr ⟨rfl, ⟨by first | exact True.intro | with_reducible assumption | exact unhid (by with_reducible assumption) | rfl | (first | omega | (have z0_ := unhid c2; omega)) | trivial, by rfl, by exact im_mw h_p0 (by assumption) (by (first | omega | (have z0_ := unhid c2; omega))), by exact MW_frk h_p0 (by assumption) (by decide), by exact im_6 (by assumption) (by (first | omega | (have z0_ := unhid c2; omega))), by exact fun j _ => fr_at (by assumption) (by decide) j, by exact im_all (by assumption) (by (first | omega | (have z0_ := unhid c2; omega))), by exact fun j _ => fr_at (by assumption) (by decide) j, by first | exact True.intro | with_reducible assumption | exact unhid (by with_reducible assumption) | rfl | (first | omega | (have z0_ := unhid c2; omega)) | trivial⟩⟩)⟩
        · skip
          refine go_toq PM247 (k := 8) (pc' := 51) (L' := [some (.inr (.inr (some 79))), some (.inl 0), some (.inl l15_2)]) (st' := [.inl l15_2, .inr (.inr (some 81)), .inl l15_2, .inr (.inr (some 80))]) (w' := (SH, dt57)) rfl ?_
          have r68 : (-2147483648) ≤ dt 81 (l15_2).toNat ∧ dt 81 (l15_2).toNat ≤ 2147483647 := InvC_get hI 81 (l15_2).toNat rfl rfl
          refine go_smpq PM247 (L' := [some (.inr (.inr (some 79))), some (.inl 0), some (.inl l15_2)]) (st' := [.inl (dt 81 (l15_2).toNat), .inl l15_2, .inr (.inr (some 80))]) (w' := (SH, dt57)) rfl rfl (s_ev (s_iald (n := 7460) (f := dt57 81) rfl (by first | exact bndc i60 c64 (by decide) (by decide) | exact bndx i60 (by decide) (by decide) | exact ⟨by (first | omega | (have z0_ := unhid c2; omega)), by (first | omega | (have z0_ := unhid c2; omega))⟩)) (hF59 81 (by decide) _)) ?_
          have hI69 : InvC (u2 dt57 80 (l15_2).toNat (dt 81 (l15_2).toNat)) := InvC_u2 hI58 (lo := -2147483648) (hi := 2147483647) rfl rfl rfl (by first | exact bnd1 r68 (by decide) | (first | omega | (have z0_ := unhid c2; omega))) (by first | exact bnd2 r68 (by decide) | (first | omega | (have z0_ := unhid c2; omega)))
          have hF70 : Fr [79, 80] dt (u2 dt57 80 (l15_2).toNat (dt 81 (l15_2).toNat)) := Fr_u2 hF59 (by decide)
          have w71 : (u2 dt57 80 (l15_2).toNat (dt 81 (l15_2).toNat)) 79 12 = dt57 79 12 := rfl
          refine go_smpq PM247 (L' := [some (.inr (.inr (some 79))), some (.inl 0), some (.inl l15_2)]) (st' := []) (w' := (SH, (u2 dt57 80 (l15_2).toNat (dt 81 (l15_2).toNat)))) rfl rfl (s_iast (n := 7460) rfl (by first | exact bndc i60 c64 (by decide) (by decide) | exact bndx i60 (by decide) (by decide) | exact ⟨by (first | omega | (have z0_ := unhid c2; omega)), by (first | omega | (have z0_ := unhid c2; omega))⟩) (by first | exact bnd r68 (by decide) (by decide) | exact ⟨by (first | omega | (have z0_ := unhid c2; omega)), by (first | omega | (have z0_ := unhid c2; omega))⟩)) ?_
          refine go_toq PM247 (k := 2) (pc' := 15) (L' := [some (.inr (.inr (some 79))), some (.inl 0), some (.inl (l15_2 + 1))]) (st' := []) (w' := (SH, (u2 dt57 80 (l15_2).toNat (dt 81 (l15_2).toNat)))) rfl ?_
          exact GO.le (ih_loop63 (l15_2 + 1) (u2 dt57 80 (l15_2).toNat (dt 81 (l15_2).toNat)) hI69 hF70 (by first | with_reducible assumption | exact unhid (by with_reducible assumption) | (first | omega | (have z0_ := unhid c2; omega)) | exact im_0 | exact im_step (by assumption) (by (first | omega | (have z0_ := unhid c2; omega))) rfl) (by first | with_reducible assumption | exact unhid (by with_reducible assumption) | (first | omega | (have z0_ := unhid c2; omega)) | exact im_0 | exact im_step (by assumption) (by (first | omega | (have z0_ := unhid c2; omega))) rfl) (by first | with_reducible assumption | exact unhid (by with_reducible assumption) | (first | omega | (have z0_ := unhid c2; omega)) | exact im_0 | exact im_step (by assumption) (by (first | omega | (have z0_ := unhid c2; omega))) rfl) (by (first | omega | (have z0_ := unhid c2; omega)))) ⟨.inl rfl, .inl rfl, .inl rfl, trivial⟩
    exact GO.le (loop63 _ 0 dt hI hF (by first | with_reducible assumption | exact unhid (by with_reducible assumption) | (first | omega | (have z0_ := unhid c2; omega)) | exact im_0 | exact im_step (by assumption) (by (first | omega | (have z0_ := unhid c2; omega))) rfl) (by first | with_reducible assumption | exact unhid (by with_reducible assumption) | (first | omega | (have z0_ := unhid c2; omega)) | exact im_0 | exact im_step (by assumption) (by (first | omega | (have z0_ := unhid c2; omega))) rfl) (by first | with_reducible assumption | exact unhid (by with_reducible assumption) | (first | omega | (have z0_ := unhid c2; omega)) | exact im_0 | exact im_step (by assumption) (by (first | omega | (have z0_ := unhid c2; omega))) rfl) (Nat.lt_succ_self _)) ⟨.inl rfl, .inl rfl, .inl rfl, trivial⟩
  · skip
    refine go_retq PM247 (k := 1) (r := some (.inl 0)) (w1 := (SH, dt)) rfl ?_
    exact ⟨dt, rfl, hI, hF, (Or.inl ⟨rfl, ⟨by first | exact True.intro | with_reducible assumption | rfl | omega | trivial, by first | assumption | omega, by exact hM, by exact h_p0, by exact fun j _ => rfl, by exact fun j _ => rfl, by exact fun j _ => rfl, by exact fun j _ => rfl, by first | exact True.intro | with_reducible assumption | rfl | omega | trivial⟩⟩)⟩
