theorem sp_J7_fill_53178_w44 (L : Nat) (xs : Nat → Int32) (sio : Option Nat) (d : Nat) (dt : Nat → Nat → Int) (hI : InvC dt)  (p2 : Int) (h_p2 : (-1) ≤ p2 ∧ p2 ≤ 0)  : GO (am_XX L xs sio) (d) 261 0 [some (.inr (.inr (some 44))), some (.inl p2), none, none] [] (SH, dt) (fun r w2 => ∃ dt2 : Nat → Nat → Int, w2 = (SH, dt2) ∧ InvC dt2 ∧ Fr [44] dt dt2 ∧ ((r = none ∧ (ALLV (dt2 44) 4 p2)))) := by
  have hF : Fr [44] dt dt := Fr_refl
  refine go_toq PM261 (k := 5) (pc' := 5) (L' := [some (.inr (.inr (some 44))), some (.inl p2), some (.inl 0), some (.inl 4)]) (st' := []) (w' := (SH, dt)) rfl ?_
  have loop10 : ∀ (k_ : Nat) (l5_2 : Int) (dt5 : Nat → Nat → Int) (hI6 : InvC dt5) (hF7 : Fr [44] dt dt5) (i8 : 0 ≤ l5_2 ∧ l5_2 ≤ 4) (i9 : ALLV (dt5 44) l5_2 p2), (5 - l5_2).toNat < k_ → GO (am_XX L xs sio) (d) 261 5 [some (.inr (.inr (some 44))), some (.inl p2), some (.inl l5_2), some (.inl 4)] [] (SH, dt5) (fun r w2 => ∃ dt2 : Nat → Nat → Int, w2 = (SH, dt2) ∧ InvC dt2 ∧ Fr [44] dt dt2 ∧ ((r = none ∧ (ALLV (dt2 44) 4 p2)))) := by
    intro k_
    induction k_ with
    | zero => intro l5_2 dt5 hI6 hF7 i8 i9 hm; exact absurd hm (Nat.not_lt_zero _)
    | succ k_ ih_loop10 =>
      intro l5_2 dt5 hI6 hF7 i8 i9 hm
      have qA := i9
      refine go_ifq PM261 (k := 2) (p1 := 20) (p2 := 10) (L' := [some (.inr (.inr (some 44))), some (.inl p2), some (.inl l5_2), some (.inl 4)]) (st' := []) (w' := (SH, dt5)) rfl (c_ge (a := l5_2) (b := 4) (by first | exact bnd i8 (by decide) (by decide) | exact ⟨by fail, by fail⟩) ⟨by decide, by decide⟩) (fun c11 => ?_) (fun c11 => ?_)
      · skip
        refine go_retq PM261 (k := 0) (r := none) (w1 := (SH, dt5)) rfl ?_
        exact ⟨dt5, rfl, hI6, hF7, ⟨rfl, by exact ALLV_k qA (by omega) (fun j => rfl)⟩⟩
      · skip
        refine go_toq PM261 (k := 3) (pc' := 13) (L' := [some (.inr (.inr (some 44))), some (.inl p2), some (.inl l5_2), some (.inl 4)]) (st' := [.inl p2, .inl l5_2, .inr (.inr (some 44))]) (w' := (SH, dt5)) rfl ?_
        have hI12 : InvC (u2 dt5 44 (l5_2).toNat p2) := InvC_u2 hI6 (lo := -2147483648) (hi := 2147483647) rfl rfl rfl (by first | exact bnd1 h_p2 (by decide) | fail) (by first | exact bnd2 h_p2 (by decide) | fail)
        have hF13 : Fr [44] dt (u2 dt5 44 (l5_2).toNat p2) := Fr_u2 hF7 (by decide)
        refine go_smpq PM261 (L' := [some (.inr (.inr (some 44))), some (.inl p2), some (.inl l5_2), some (.inl 4)]) (st' := []) (w' := (SH, (u2 dt5 44 (l5_2).toNat p2))) rfl rfl (s_iast (n := 4) rfl (by first | exact bndc i8 c11 (by decide) (by decide) | exact bndx i8 (by decide) (by decide) | exact ⟨by fail, by fail⟩) (by first | exact bnd h_p2 (by decide) (by decide) | exact ⟨by fail, by fail⟩)) ?_
        refine go_toq PM261 (k := 2) (pc' := 5) (L' := [some (.inr (.inr (some 44))), some (.inl p2), some (.inl (l5_2 + 1)), some (.inl 4)]) (st' := []) (w' := (SH, (u2 dt5 44 (l5_2).toNat p2))) rfl ?_
        exact GO.le (ih_loop10 (l5_2 + 1) (u2 dt5 44 (l5_2).toNat p2) hI12 hF13 (by first | with_reducible assumption | omega | exact ALLV_0 (by fail) | exact ALLV_s qA (by fail) (by fail) (fun j hj => by (repeat rw [u2_ne (by fail)])) (by (repeat (first | rw [u2_eq] | rw [u2_ne (by fail)])))) (by first | with_reducible assumption | fail | exact ALLV_0 (by fail) | exact ALLV_s qA (by omega) (by omega) (fun j hj => by (repeat rw [u2_ne (by omega)])) (by (repeat (first | rw [u2_eq] | rw [u2_ne (by fail)])))) (by omega)) ⟨.inl rfl, .inl rfl, .inl rfl, .inl rfl, trivial⟩
  exact GO.le (loop10 _ 0 dt hI hF (by first | with_reducible assumption | omega | exact ALLV_0 (by fail) | exact ALLV_s qA (by fail) (by fail) (fun j hj => by (repeat rw [u2_ne (by fail)])) (by (repeat (first | rw [u2_eq] | rw [u2_ne (by fail)])))) (by first | with_reducible assumption | fail | exact ALLV_0 (by omega) | exact ALLV_s qA (by fail) (by fail) (fun j hj => by (repeat rw [u2_ne (by fail)])) (by (repeat (first | rw [u2_eq] | rw [u2_ne (by fail)])))) (Nat.lt_succ_self _)) ⟨.inl rfl, .inl rfl, .inl rfl, .inl rfl, trivial⟩
theorem sp_J7_fill_53178_w45 (L : Nat) (xs : Nat → Int32) (sio : Option Nat) (d : Nat) (dt : Nat → Nat → Int) (hI : InvC dt)  (p2 : Int) (h_p2 : (-1) ≤ p2 ∧ p2 ≤ 0)  : GO (am_XX L xs sio) (d) 261 0 [some (.inr (.inr (some 45))), some (.inl p2), none, none] [] (SH, dt) (fun r w2 => ∃ dt2 : Nat → Nat → Int, w2 = (SH, dt2) ∧ InvC dt2 ∧ Fr [45] dt dt2 ∧ ((r = none ∧ (ALLV (dt2 45) 4 p2)))) := by
  have hF : Fr [45] dt dt := Fr_refl
  refine go_toq PM261 (k := 5) (pc' := 5) (L' := [some (.inr (.inr (some 45))), some (.inl p2), some (.inl 0), some (.inl 4)]) (st' := []) (w' := (SH, dt)) rfl ?_
  have loop10 : ∀ (k_ : Nat) (l5_2 : Int) (dt5 : Nat → Nat → Int) (hI6 : InvC dt5) (hF7 : Fr [45] dt dt5) (i8 : 0 ≤ l5_2 ∧ l5_2 ≤ 4) (i9 : ALLV (dt5 45) l5_2 p2), (5 - l5_2).toNat < k_ → GO (am_XX L xs sio) (d) 261 5 [some (.inr (.inr (some 45))), some (.inl p2), some (.inl l5_2), some (.inl 4)] [] (SH, dt5) (fun r w2 => ∃ dt2 : Nat → Nat → Int, w2 = (SH, dt2) ∧ InvC dt2 ∧ Fr [45] dt dt2 ∧ ((r = none ∧ (ALLV (dt2 45) 4 p2)))) := by
    intro k_
    induction k_ with
    | zero => intro l5_2 dt5 hI6 hF7 i8 i9 hm; exact absurd hm (Nat.not_lt_zero _)
    | succ k_ ih_loop10 =>
      intro l5_2 dt5 hI6 hF7 i8 i9 hm
      have qA := i9
      refine go_ifq PM261 (k := 2) (p1 := 20) (p2 := 10) (L' := [some (.inr (.inr (some 45))), some (.inl p2), some (.inl l5_2), some (.inl 4)]) (st' := []) (w' := (SH, dt5)) rfl (c_ge (a := l5_2) (b := 4) (by first | exact bnd i8 (by decide) (by decide) | exact ⟨by fail, by fail⟩) ⟨by decide, by decide⟩) (fun c11 => ?_) (fun c11 => ?_)
      · skip
        refine go_retq PM261 (k := 0) (r := none) (w1 := (SH, dt5)) rfl ?_
        exact ⟨dt5, rfl, hI6, hF7, ⟨rfl, by exact ALLV_k qA (by omega) (fun j => rfl)⟩⟩
      · skip
        refine go_toq PM261 (k := 3) (pc' := 13) (L' := [some (.inr (.inr (some 45))), some (.inl p2), some (.inl l5_2), some (.inl 4)]) (st' := [.inl p2, .inl l5_2, .inr (.inr (some 45))]) (w' := (SH, dt5)) rfl ?_
        have hI12 : InvC (u2 dt5 45 (l5_2).toNat p2) := InvC_u2 hI6 (lo := -2147483648) (hi := 2147483647) rfl rfl rfl (by first | exact bnd1 h_p2 (by decide) | fail) (by first | exact bnd2 h_p2 (by decide) | fail)
        have hF13 : Fr [45] dt (u2 dt5 45 (l5_2).toNat p2) := Fr_u2 hF7 (by decide)
        refine go_smpq PM261 (L' := [some (.inr (.inr (some 45))), some (.inl p2), some (.inl l5_2), some (.inl 4)]) (st' := []) (w' := (SH, (u2 dt5 45 (l5_2).toNat p2))) rfl rfl (s_iast (n := 4) rfl (by first | exact bndc i8 c11 (by decide) (by decide) | exact bndx i8 (by decide) (by decide) | exact ⟨by fail, by fail⟩) (by first | exact bnd h_p2 (by decide) (by decide) | exact ⟨by fail, by fail⟩)) ?_
        refine go_toq PM261 (k := 2) (pc' := 5) (L' := [some (.inr (.inr (some 45))), some (.inl p2), some (.inl (l5_2 + 1)), some (.inl 4)]) (st' := []) (w' := (SH, (u2 dt5 45 (l5_2).toNat p2))) rfl ?_
        exact GO.le (ih_loop10 (l5_2 + 1) (u2 dt5 45 (l5_2).toNat p2) hI12 hF13 (by first | with_reducible assumption | omega | exact ALLV_0 (by fail) | exact ALLV_s qA (by fail) (by fail) (fun j hj => by (repeat rw [u2_ne (by fail)])) (by (repeat (first | rw [u2_eq] | rw [u2_ne (by fail)])))) (by first | with_reducible assumption | fail | exact ALLV_0 (by fail) | exact ALLV_s qA (by omega) (by omega) (fun j hj => by (repeat rw [u2_ne (by omega)])) (by (repeat (first | rw [u2_eq] | rw [u2_ne (by fail)])))) (by omega)) ⟨.inl rfl, .inl rfl, .inl rfl, .inl rfl, trivial⟩
  exact GO.le (loop10 _ 0 dt hI hF (by first | with_reducible assumption | omega | exact ALLV_0 (by fail) | exact ALLV_s qA (by fail) (by fail) (fun j hj => by (repeat rw [u2_ne (by fail)])) (by (repeat (first | rw [u2_eq] | rw [u2_ne (by fail)])))) (by first | with_reducible assumption | fail | exact ALLV_0 (by omega) | exact ALLV_s qA (by fail) (by fail) (fun j hj => by (repeat rw [u2_ne (by fail)])) (by (repeat (first | rw [u2_eq] | rw [u2_ne (by fail)])))) (Nat.lt_succ_self _)) ⟨.inl rfl, .inl rfl, .inl rfl, .inl rfl, trivial⟩
theorem sp_J7_fill_53178_w46 (L : Nat) (xs : Nat → Int32) (sio : Option Nat) (d : Nat) (dt : Nat → Nat → Int) (hI : InvC dt)  (p2 : Int) (h_p2 : (-1) ≤ p2 ∧ p2 ≤ 0)  : GO (am_XX L xs sio) (d) 261 0 [some (.inr (.inr (some 46))), some (.inl p2), none, none] [] (SH, dt) (fun r w2 => ∃ dt2 : Nat → Nat → Int, w2 = (SH, dt2) ∧ InvC dt2 ∧ Fr [46] dt dt2 ∧ ((r = none ∧ (ALLV (dt2 46) 8 p2)))) := by
  have hF : Fr [46] dt dt := Fr_refl
  refine go_toq PM261 (k := 5) (pc' := 5) (L' := [some (.inr (.inr (some 46))), some (.inl p2), some (.inl 0), some (.inl 8)]) (st' := []) (w' := (SH, dt)) rfl ?_
  have loop10 : ∀ (k_ : Nat) (l5_2 : Int) (dt5 : Nat → Nat → Int) (hI6 : InvC dt5) (hF7 : Fr [46] dt dt5) (i8 : 0 ≤ l5_2 ∧ l5_2 ≤ 8) (i9 : ALLV (dt5 46) l5_2 p2), (9 - l5_2).toNat < k_ → GO (am_XX L xs sio) (d) 261 5 [some (.inr (.inr (some 46))), some (.inl p2), some (.inl l5_2), some (.inl 8)] [] (SH, dt5) (fun r w2 => ∃ dt2 : Nat → Nat → Int, w2 = (SH, dt2) ∧ InvC dt2 ∧ Fr [46] dt dt2 ∧ ((r = none ∧ (ALLV (dt2 46) 8 p2)))) := by
    intro k_
    induction k_ with
    | zero => intro l5_2 dt5 hI6 hF7 i8 i9 hm; exact absurd hm (Nat.not_lt_zero _)
    | succ k_ ih_loop10 =>
      intro l5_2 dt5 hI6 hF7 i8 i9 hm
      have qA := i9
      refine go_ifq PM261 (k := 2) (p1 := 20) (p2 := 10) (L' := [some (.inr (.inr (some 46))), some (.inl p2), some (.inl l5_2), some (.inl 8)]) (st' := []) (w' := (SH, dt5)) rfl (c_ge (a := l5_2) (b := 8) (by first | exact bnd i8 (by decide) (by decide) | exact ⟨by fail, by fail⟩) ⟨by decide, by decide⟩) (fun c11 => ?_) (fun c11 => ?_)
      · skip
        refine go_retq PM261 (k := 0) (r := none) (w1 := (SH, dt5)) rfl ?_
        exact ⟨dt5, rfl, hI6, hF7, ⟨rfl, by exact ALLV_k qA (by omega) (fun j => rfl)⟩⟩
      · skip
        refine go_toq PM261 (k := 3) (pc' := 13) (L' := [some (.inr (.inr (some 46))), some (.inl p2), some (.inl l5_2), some (.inl 8)]) (st' := [.inl p2, .inl l5_2, .inr (.inr (some 46))]) (w' := (SH, dt5)) rfl ?_
        have hI12 : InvC (u2 dt5 46 (l5_2).toNat p2) := InvC_u2 hI6 (lo := -2147483648) (hi := 2147483647) rfl rfl rfl (by first | exact bnd1 h_p2 (by decide) | fail) (by first | exact bnd2 h_p2 (by decide) | fail)
        have hF13 : Fr [46] dt (u2 dt5 46 (l5_2).toNat p2) := Fr_u2 hF7 (by decide)
        refine go_smpq PM261 (L' := [some (.inr (.inr (some 46))), some (.inl p2), some (.inl l5_2), some (.inl 8)]) (st' := []) (w' := (SH, (u2 dt5 46 (l5_2).toNat p2))) rfl rfl (s_iast (n := 8) rfl (by first | exact bndc i8 c11 (by decide) (by decide) | exact bndx i8 (by decide) (by decide) | exact ⟨by fail, by fail⟩) (by first | exact bnd h_p2 (by decide) (by decide) | exact ⟨by fail, by fail⟩)) ?_
        refine go_toq PM261 (k := 2) (pc' := 5) (L' := [some (.inr (.inr (some 46))), some (.inl p2), some (.inl (l5_2 + 1)), some (.inl 8)]) (st' := []) (w' := (SH, (u2 dt5 46 (l5_2).toNat p2))) rfl ?_
        exact GO.le (ih_loop10 (l5_2 + 1) (u2 dt5 46 (l5_2).toNat p2) hI12 hF13 (by first | with_reducible assumption | omega | exact ALLV_0 (by fail) | exact ALLV_s qA (by fail) (by fail) (fun j hj => by (repeat rw [u2_ne (by fail)])) (by (repeat (first | rw [u2_eq] | rw [u2_ne (by fail)])))) (by first | with_reducible assumption | fail | exact ALLV_0 (by fail) | exact ALLV_s qA (by omega) (by omega) (fun j hj => by (repeat rw [u2_ne (by omega)])) (by (repeat (first | rw [u2_eq] | rw [u2_ne (by fail)])))) (by omega)) ⟨.inl rfl, .inl rfl, .inl rfl, .inl rfl, trivial⟩
  exact GO.le (loop10 _ 0 dt hI hF (by first | with_reducible assumption | omega | exact ALLV_0 (by fail) | exact ALLV_s qA (by fail) (by fail) (fun j hj => by (repeat rw [u2_ne (by fail)])) (by (repeat (first | rw [u2_eq] | rw [u2_ne (by fail)])))) (by first | with_reducible assumption | fail | exact ALLV_0 (by omega) | exact ALLV_s qA (by fail) (by fail) (fun j hj => by (repeat rw [u2_ne (by fail)])) (by (repeat (first | rw [u2_eq] | rw [u2_ne (by fail)])))) (Nat.lt_succ_self _)) ⟨.inl rfl, .inl rfl, .inl rfl, .inl rfl, trivial⟩
theorem sp_J7_fill_53178_w47 (L : Nat) (xs : Nat → Int32) (sio : Option Nat) (d : Nat) (dt : Nat → Nat → Int) (hI : InvC dt)  (p2 : Int) (h_p2 : (-1) ≤ p2 ∧ p2 ≤ 0)  : GO (am_XX L xs sio) (d) 261 0 [some (.inr (.inr (some 47))), some (.inl p2), none, none] [] (SH, dt) (fun r w2 => ∃ dt2 : Nat → Nat → Int, w2 = (SH, dt2) ∧ InvC dt2 ∧ Fr [47] dt dt2 ∧ ((r = none ∧ (ALLV (dt2 47) 3 p2)))) := by
  have hF : Fr [47] dt dt := Fr_refl
  refine go_toq PM261 (k := 5) (pc' := 5) (L' := [some (.inr (.inr (some 47))), some (.inl p2), some (.inl 0), some (.inl 3)]) (st' := []) (w' := (SH, dt)) rfl ?_
  have loop10 : ∀ (k_ : Nat) (l5_2 : Int) (dt5 : Nat → Nat → Int) (hI6 : InvC dt5) (hF7 : Fr [47] dt dt5) (i8 : 0 ≤ l5_2 ∧ l5_2 ≤ 3) (i9 : ALLV (dt5 47) l5_2 p2), (4 - l5_2).toNat < k_ → GO (am_XX L xs sio) (d) 261 5 [some (.inr (.inr (some 47))), some (.inl p2), some (.inl l5_2), some (.inl 3)] [] (SH, dt5) (fun r w2 => ∃ dt2 : Nat → Nat → Int, w2 = (SH, dt2) ∧ InvC dt2 ∧ Fr [47] dt dt2 ∧ ((r = none ∧ (ALLV (dt2 47) 3 p2)))) := by
    intro k_
    induction k_ with
    | zero => intro l5_2 dt5 hI6 hF7 i8 i9 hm; exact absurd hm (Nat.not_lt_zero _)
    | succ k_ ih_loop10 =>
      intro l5_2 dt5 hI6 hF7 i8 i9 hm
      have qA := i9
      refine go_ifq PM261 (k := 2) (p1 := 20) (p2 := 10) (L' := [some (.inr (.inr (some 47))), some (.inl p2), some (.inl l5_2), some (.inl 3)]) (st' := []) (w' := (SH, dt5)) rfl (c_ge (a := l5_2) (b := 3) (by first | exact bnd i8 (by decide) (by decide) | exact ⟨by fail, by fail⟩) ⟨by decide, by decide⟩) (fun c11 => ?_) (fun c11 => ?_)
      · skip
        refine go_retq PM261 (k := 0) (r := none) (w1 := (SH, dt5)) rfl ?_
        exact ⟨dt5, rfl, hI6, hF7, ⟨rfl, by exact ALLV_k qA (by omega) (fun j => rfl)⟩⟩
      · skip
        refine go_toq PM261 (k := 3) (pc' := 13) (L' := [some (.inr (.inr (some 47))), some (.inl p2), some (.inl l5_2), some (.inl 3)]) (st' := [.inl p2, .inl l5_2, .inr (.inr (some 47))]) (w' := (SH, dt5)) rfl ?_
        have hI12 : InvC (u2 dt5 47 (l5_2).toNat p2) := InvC_u2 hI6 (lo := -2147483648) (hi := 2147483647) rfl rfl rfl (by first | exact bnd1 h_p2 (by decide) | fail) (by first | exact bnd2 h_p2 (by decide) | fail)
        have hF13 : Fr [47] dt (u2 dt5 47 (l5_2).toNat p2) := Fr_u2 hF7 (by decide)
        refine go_smpq PM261 (L' := [some (.inr (.inr (some 47))), some (.inl p2), some (.inl l5_2), some (.inl 3)]) (st' := []) (w' := (SH, (u2 dt5 47 (l5_2).toNat p2))) rfl rfl (s_iast (n := 3) rfl (by first | exact bndc i8 c11 (by decide) (by decide) | exact bndx i8 (by decide) (by decide) | exact ⟨by fail, by fail⟩) (by first | exact bnd h_p2 (by decide) (by decide) | exact ⟨by fail, by fail⟩)) ?_
        refine go_toq PM261 (k := 2) (pc' := 5) (L' := [some (.inr (.inr (some 47))), some (.inl p2), some (.inl (l5_2 + 1)), some (.inl 3)]) (st' := []) (w' := (SH, (u2 dt5 47 (l5_2).toNat p2))) rfl ?_
        exact GO.le (ih_loop10 (l5_2 + 1) (u2 dt5 47 (l5_2).toNat p2) hI12 hF13 (by first | with_reducible assumption | omega | exact ALLV_0 (by fail) | exact ALLV_s qA (by fail) (by fail) (fun j hj => by (repeat rw [u2_ne (by fail)])) (by (repeat (first | rw [u2_eq] | rw [u2_ne (by fail)])))) (by first | with_reducible assumption | fail | exact ALLV_0 (by fail) | exact ALLV_s qA (by omega) (by omega) (fun j hj => by (repeat rw [u2_ne (by omega)])) (by (repeat (first | rw [u2_eq] | rw [u2_ne (by fail)])))) (by omega)) ⟨.inl rfl, .inl rfl, .inl rfl, .inl rfl, trivial⟩
  exact GO.le (loop10 _ 0 dt hI hF (by first | with_reducible assumption | omega | exact ALLV_0 (by fail) | exact ALLV_s qA (by fail) (by fail) (fun j hj => by (repeat rw [u2_ne (by fail)])) (by (repeat (first | rw [u2_eq] | rw [u2_ne (by fail)])))) (by first | with_reducible assumption | fail | exact ALLV_0 (by omega) | exact ALLV_s qA (by fail) (by fail) (fun j hj => by (repeat rw [u2_ne (by fail)])) (by (repeat (first | rw [u2_eq] | rw [u2_ne (by fail)])))) (Nat.lt_succ_self _)) ⟨.inl rfl, .inl rfl, .inl rfl, .inl rfl, trivial⟩
theorem sp_J7_fill_53178_w48 (L : Nat) (xs : Nat → Int32) (sio : Option Nat) (d : Nat) (dt : Nat → Nat → Int) (hI : InvC dt)  (p2 : Int) (h_p2 : (-1) ≤ p2 ∧ p2 ≤ 0)  : GO (am_XX L xs sio) (d) 261 0 [some (.inr (.inr (some 48))), some (.inl p2), none, none] [] (SH, dt) (fun r w2 => ∃ dt2 : Nat → Nat → Int, w2 = (SH, dt2) ∧ InvC dt2 ∧ Fr [48] dt dt2 ∧ ((r = none ∧ (ALLV (dt2 48) 3 p2)))) := by
  have hF : Fr [48] dt dt := Fr_refl
  refine go_toq PM261 (k := 5) (pc' := 5) (L' := [some (.inr (.inr (some 48))), some (.inl p2), some (.inl 0), some (.inl 3)]) (st' := []) (w' := (SH, dt)) rfl ?_
  have loop10 : ∀ (k_ : Nat) (l5_2 : Int) (dt5 : Nat → Nat → Int) (hI6 : InvC dt5) (hF7 : Fr [48] dt dt5) (i8 : 0 ≤ l5_2 ∧ l5_2 ≤ 3) (i9 : ALLV (dt5 48) l5_2 p2), (4 - l5_2).toNat < k_ → GO (am_XX L xs sio) (d) 261 5 [some (.inr (.inr (some 48))), some (.inl p2), some (.inl l5_2), some (.inl 3)] [] (SH, dt5) (fun r w2 => ∃ dt2 : Nat → Nat → Int, w2 = (SH, dt2) ∧ InvC dt2 ∧ Fr [48] dt dt2 ∧ ((r = none ∧ (ALLV (dt2 48) 3 p2)))) := by
    intro k_
    induction k_ with
    | zero => intro l5_2 dt5 hI6 hF7 i8 i9 hm; exact absurd hm (Nat.not_lt_zero _)
    | succ k_ ih_loop10 =>
      intro l5_2 dt5 hI6 hF7 i8 i9 hm
      have qA := i9
      refine go_ifq PM261 (k := 2) (p1 := 20) (p2 := 10) (L' := [some (.inr (.inr (some 48))), some (.inl p2), some (.inl l5_2), some (.inl 3)]) (st' := []) (w' := (SH, dt5)) rfl (c_ge (a := l5_2) (b := 3) (by first | exact bnd i8 (by decide) (by decide) | exact ⟨by fail, by fail⟩) ⟨by decide, by decide⟩) (fun c11 => ?_) (fun c11 => ?_)
      · skip
        refine go_retq PM261 (k := 0) (r := none) (w1 := (SH, dt5)) rfl ?_
        exact ⟨dt5, rfl, hI6, hF7, ⟨rfl, by exact ALLV_k qA (by omega) (fun j => rfl)⟩⟩
      · skip
        refine go_toq PM261 (k := 3) (pc' := 13) (L' := [some (.inr (.inr (some 48))), some (.inl p2), some (.inl l5_2), some (.inl 3)]) (st' := [.inl p2, .inl l5_2, .inr (.inr (some 48))]) (w' := (SH, dt5)) rfl ?_
        have hI12 : InvC (u2 dt5 48 (l5_2).toNat p2) := InvC_u2 hI6 (lo := -2147483648) (hi := 2147483647) rfl rfl rfl (by first | exact bnd1 h_p2 (by decide) | fail) (by first | exact bnd2 h_p2 (by decide) | fail)
        have hF13 : Fr [48] dt (u2 dt5 48 (l5_2).toNat p2) := Fr_u2 hF7 (by decide)
        refine go_smpq PM261 (L' := [some (.inr (.inr (some 48))), some (.inl p2), some (.inl l5_2), some (.inl 3)]) (st' := []) (w' := (SH, (u2 dt5 48 (l5_2).toNat p2))) rfl rfl (s_iast (n := 3) rfl (by first | exact bndc i8 c11 (by decide) (by decide) | exact bndx i8 (by decide) (by decide) | exact ⟨by fail, by fail⟩) (by first | exact bnd h_p2 (by decide) (by decide) | exact ⟨by fail, by fail⟩)) ?_
        refine go_toq PM261 (k := 2) (pc' := 5) (L' := [some (.inr (.inr (some 48))), some (.inl p2), some (.inl (l5_2 + 1)), some (.inl 3)]) (st' := []) (w' := (SH, (u2 dt5 48 (l5_2).toNat p2))) rfl ?_
        exact GO.le (ih_loop10 (l5_2 + 1) (u2 dt5 48 (l5_2).toNat p2) hI12 hF13 (by first | with_reducible assumption | omega | exact ALLV_0 (by fail) | exact ALLV_s qA (by fail) (by fail) (fun j hj => by (repeat rw [u2_ne (by fail)])) (by (repeat (first | rw [u2_eq] | rw [u2_ne (by fail)])))) (by first | with_reducible assumption | fail | exact ALLV_0 (by fail) | exact ALLV_s qA (by omega) (by omega) (fun j hj => by (repeat rw [u2_ne (by omega)])) (by (repeat (first | rw [u2_eq] | rw [u2_ne (by fail)])))) (by omega)) ⟨.inl rfl, .inl rfl, .inl rfl, .inl rfl, trivial⟩
  exact GO.le (loop10 _ 0 dt hI hF (by first | with_reducible assumption | omega | exact ALLV_0 (by fail) | exact ALLV_s qA (by fail) (by fail) (fun j hj => by (repeat rw [u2_ne (by fail)])) (by (repeat (first | rw [u2_eq] | rw [u2_ne (by fail)])))) (by first | with_reducible assumption | fail | exact ALLV_0 (by omega) | exact ALLV_s qA (by fail) (by fail) (fun j hj => by (repeat rw [u2_ne (by fail)])) (by (repeat (first | rw [u2_eq] | rw [u2_ne (by fail)])))) (Nat.lt_succ_self _)) ⟨.inl rfl, .inl rfl, .inl rfl, .inl rfl, trivial⟩
theorem sp_J7_fill_53178_w49 (L : Nat) (xs : Nat → Int32) (sio : Option Nat) (d : Nat) (dt : Nat → Nat → Int) (hI : InvC dt)  (p2 : Int) (h_p2 : (-1) ≤ p2 ∧ p2 ≤ 0)  : GO (am_XX L xs sio) (d) 261 0 [some (.inr (.inr (some 49))), some (.inl p2), none, none] [] (SH, dt) (fun r w2 => ∃ dt2 : Nat → Nat → Int, w2 = (SH, dt2) ∧ InvC dt2 ∧ Fr [49] dt dt2 ∧ ((r = none ∧ (ALLV (dt2 49) 3 p2)))) := by
  have hF : Fr [49] dt dt := Fr_refl
  refine go_toq PM261 (k := 5) (pc' := 5) (L' := [some (.inr (.inr (some 49))), some (.inl p2), some (.inl 0), some (.inl 3)]) (st' := []) (w' := (SH, dt)) rfl ?_
  have loop10 : ∀ (k_ : Nat) (l5_2 : Int) (dt5 : Nat → Nat → Int) (hI6 : InvC dt5) (hF7 : Fr [49] dt dt5) (i8 : 0 ≤ l5_2 ∧ l5_2 ≤ 3) (i9 : ALLV (dt5 49) l5_2 p2), (4 - l5_2).toNat < k_ → GO (am_XX L xs sio) (d) 261 5 [some (.inr (.inr (some 49))), some (.inl p2), some (.inl l5_2), some (.inl 3)] [] (SH, dt5) (fun r w2 => ∃ dt2 : Nat → Nat → Int, w2 = (SH, dt2) ∧ InvC dt2 ∧ Fr [49] dt dt2 ∧ ((r = none ∧ (ALLV (dt2 49) 3 p2)))) := by
    intro k_
    induction k_ with
    | zero => intro l5_2 dt5 hI6 hF7 i8 i9 hm; exact absurd hm (Nat.not_lt_zero _)
    | succ k_ ih_loop10 =>
      intro l5_2 dt5 hI6 hF7 i8 i9 hm
      have qA := i9
      refine go_ifq PM261 (k := 2) (p1 := 20) (p2 := 10) (L' := [some (.inr (.inr (some 49))), some (.inl p2), some (.inl l5_2), some (.inl 3)]) (st' := []) (w' := (SH, dt5)) rfl (c_ge (a := l5_2) (b := 3) (by first | exact bnd i8 (by decide) (by decide) | exact ⟨by fail, by fail⟩) ⟨by decide, by decide⟩) (fun c11 => ?_) (fun c11 => ?_)
      · skip
        refine go_retq PM261 (k := 0) (r := none) (w1 := (SH, dt5)) rfl ?_
        exact ⟨dt5, rfl, hI6, hF7, ⟨rfl, by exact ALLV_k qA (by omega) (fun j => rfl)⟩⟩
      · skip
        refine go_toq PM261 (k := 3) (pc' := 13) (L' := [some (.inr (.inr (some 49))), some (.inl p2), some (.inl l5_2), some (.inl 3)]) (st' := [.inl p2, .inl l5_2, .inr (.inr (some 49))]) (w' := (SH, dt5)) rfl ?_
        have hI12 : InvC (u2 dt5 49 (l5_2).toNat p2) := InvC_u2 hI6 (lo := -2147483648) (hi := 2147483647) rfl rfl rfl (by first | exact bnd1 h_p2 (by decide) | fail) (by first | exact bnd2 h_p2 (by decide) | fail)
        have hF13 : Fr [49] dt (u2 dt5 49 (l5_2).toNat p2) := Fr_u2 hF7 (by decide)
        refine go_smpq PM261 (L' := [some (.inr (.inr (some 49))), some (.inl p2), some (.inl l5_2), some (.inl 3)]) (st' := []) (w' := (SH, (u2 dt5 49 (l5_2).toNat p2))) rfl rfl (s_iast (n := 3) rfl (by first | exact bndc i8 c11 (by decide) (by decide) | exact bndx i8 (by decide) (by decide) | exact ⟨by fail, by fail⟩) (by first | exact bnd h_p2 (by decide) (by decide) | exact ⟨by fail, by fail⟩)) ?_
        refine go_toq PM261 (k := 2) (pc' := 5) (L' := [some (.inr (.inr (some 49))), some (.inl p2), some (.inl (l5_2 + 1)), some (.inl 3)]) (st' := []) (w' := (SH, (u2 dt5 49 (l5_2).toNat p2))) rfl ?_
        exact GO.le (ih_loop10 (l5_2 + 1) (u2 dt5 49 (l5_2).toNat p2) hI12 hF13 (by first | with_reducible assumption | omega | exact ALLV_0 (by fail) | exact ALLV_s qA (by fail) (by fail) (fun j hj => by (repeat rw [u2_ne (by fail)])) (by (repeat (first | rw [u2_eq] | rw [u2_ne (by fail)])))) (by first | with_reducible assumption | fail | exact ALLV_0 (by fail) | exact ALLV_s qA (by omega) (by omega) (fun j hj => by (repeat rw [u2_ne (by omega)])) (by (repeat (first | rw [u2_eq] | rw [u2_ne (by fail)])))) (by omega)) ⟨.inl rfl, .inl rfl, .inl rfl, .inl rfl, trivial⟩
  exact GO.le (loop10 _ 0 dt hI hF (by first | with_reducible assumption | omega | exact ALLV_0 (by fail) | exact ALLV_s qA (by fail) (by fail) (fun j hj => by (repeat rw [u2_ne (by fail)])) (by (repeat (first | rw [u2_eq] | rw [u2_ne (by fail)])))) (by first | with_reducible assumption | fail | exact ALLV_0 (by omega) | exact ALLV_s qA (by fail) (by fail) (fun j hj => by (repeat rw [u2_ne (by fail)])) (by (repeat (first | rw [u2_eq] | rw [u2_ne (by fail)])))) (Nat.lt_succ_self _)) ⟨.inl rfl, .inl rfl, .inl rfl, .inl rfl, trivial⟩
theorem sp_J7_fill_53178_w50 (L : Nat) (xs : Nat → Int32) (sio : Option Nat) (d : Nat) (dt : Nat → Nat → Int) (hI : InvC dt)  (p2 : Int) (h_p2 : (-1) ≤ p2 ∧ p2 ≤ 0)  : GO (am_XX L xs sio) (d) 261 0 [some (.inr (.inr (some 50))), some (.inl p2), none, none] [] (SH, dt) (fun r w2 => ∃ dt2 : Nat → Nat → Int, w2 = (SH, dt2) ∧ InvC dt2 ∧ Fr [50] dt dt2 ∧ ((r = none ∧ (ALLV (dt2 50) 3 p2)))) := by
  have hF : Fr [50] dt dt := Fr_refl
  refine go_toq PM261 (k := 5) (pc' := 5) (L' := [some (.inr (.inr (some 50))), some (.inl p2), some (.inl 0), some (.inl 3)]) (st' := []) (w' := (SH, dt)) rfl ?_
  have loop10 : ∀ (k_ : Nat) (l5_2 : Int) (dt5 : Nat → Nat → Int) (hI6 : InvC dt5) (hF7 : Fr [50] dt dt5) (i8 : 0 ≤ l5_2 ∧ l5_2 ≤ 3) (i9 : ALLV (dt5 50) l5_2 p2), (4 - l5_2).toNat < k_ → GO (am_XX L xs sio) (d) 261 5 [some (.inr (.inr (some 50))), some (.inl p2), some (.inl l5_2), some (.inl 3)] [] (SH, dt5) (fun r w2 => ∃ dt2 : Nat → Nat → Int, w2 = (SH, dt2) ∧ InvC dt2 ∧ Fr [50] dt dt2 ∧ ((r = none ∧ (ALLV (dt2 50) 3 p2)))) := by
    intro k_
    induction k_ with
    | zero => intro l5_2 dt5 hI6 hF7 i8 i9 hm; exact absurd hm (Nat.not_lt_zero _)
    | succ k_ ih_loop10 =>
      intro l5_2 dt5 hI6 hF7 i8 i9 hm
      have qA := i9
      refine go_ifq PM261 (k := 2) (p1 := 20) (p2 := 10) (L' := [some (.inr (.inr (some 50))), some (.inl p2), some (.inl l5_2), some (.inl 3)]) (st' := []) (w' := (SH, dt5)) rfl (c_ge (a := l5_2) (b := 3) (by first | exact bnd i8 (by decide) (by decide) | exact ⟨by fail, by fail⟩) ⟨by decide, by decide⟩) (fun c11 => ?_) (fun c11 => ?_)
      · skip
        refine go_retq PM261 (k := 0) (r := none) (w1 := (SH, dt5)) rfl ?_
        exact ⟨dt5, rfl, hI6, hF7, ⟨rfl, by exact ALLV_k qA (by omega) (fun j => rfl)⟩⟩
      · skip
        refine go_toq PM261 (k := 3) (pc' := 13) (L' := [some (.inr (.inr (some 50))), some (.inl p2), some (.inl l5_2), some (.inl 3)]) (st' := [.inl p2, .inl l5_2, .inr (.inr (some 50))]) (w' := (SH, dt5)) rfl ?_
        have hI12 : InvC (u2 dt5 50 (l5_2).toNat p2) := InvC_u2 hI6 (lo := -2147483648) (hi := 2147483647) rfl rfl rfl (by first | exact bnd1 h_p2 (by decide) | fail) (by first | exact bnd2 h_p2 (by decide) | fail)
        have hF13 : Fr [50] dt (u2 dt5 50 (l5_2).toNat p2) := Fr_u2 hF7 (by decide)
        refine go_smpq PM261 (L' := [some (.inr (.inr (some 50))), some (.inl p2), some (.inl l5_2), some (.inl 3)]) (st' := []) (w' := (SH, (u2 dt5 50 (l5_2).toNat p2))) rfl rfl (s_iast (n := 3) rfl (by first | exact bndc i8 c11 (by decide) (by decide) | exact bndx i8 (by decide) (by decide) | exact ⟨by fail, by fail⟩) (by first | exact bnd h_p2 (by decide) (by decide) | exact ⟨by fail, by fail⟩)) ?_
        refine go_toq PM261 (k := 2) (pc' := 5) (L' := [some (.inr (.inr (some 50))), some (.inl p2), some (.inl (l5_2 + 1)), some (.inl 3)]) (st' := []) (w' := (SH, (u2 dt5 50 (l5_2).toNat p2))) rfl ?_
        exact GO.le (ih_loop10 (l5_2 + 1) (u2 dt5 50 (l5_2).toNat p2) hI12 hF13 (by first | with_reducible assumption | omega | exact ALLV_0 (by fail) | exact ALLV_s qA (by fail) (by fail) (fun j hj => by (repeat rw [u2_ne (by fail)])) (by (repeat (first | rw [u2_eq] | rw [u2_ne (by fail)])))) (by first | with_reducible assumption | fail | exact ALLV_0 (by fail) | exact ALLV_s qA (by omega) (by omega) (fun j hj => by (repeat rw [u2_ne (by omega)])) (by (repeat (first | rw [u2_eq] | rw [u2_ne (by fail)])))) (by omega)) ⟨.inl rfl, .inl rfl, .inl rfl, .inl rfl, trivial⟩
  exact GO.le (loop10 _ 0 dt hI hF (by first | with_reducible assumption | omega | exact ALLV_0 (by fail) | exact ALLV_s qA (by fail) (by fail) (fun j hj => by (repeat rw [u2_ne (by fail)])) (by (repeat (first | rw [u2_eq] | rw [u2_ne (by fail)])))) (by first | with_reducible assumption | fail | exact ALLV_0 (by omega) | exact ALLV_s qA (by fail) (by fail) (fun j hj => by (repeat rw [u2_ne (by fail)])) (by (repeat (first | rw [u2_eq] | rw [u2_ne (by fail)])))) (Nat.lt_succ_self _)) ⟨.inl rfl, .inl rfl, .inl rfl, .inl rfl, trivial⟩
theorem sp_J7_fill_53178_w51 (L : Nat) (xs : Nat → Int32) (sio : Option Nat) (d : Nat) (dt : Nat → Nat → Int) (hI : InvC dt)  (p2 : Int) (h_p2 : (-1) ≤ p2 ∧ p2 ≤ 0)  : GO (am_XX L xs sio) (d) 261 0 [some (.inr (.inr (some 51))), some (.inl p2), none, none] [] (SH, dt) (fun r w2 => ∃ dt2 : Nat → Nat → Int, w2 = (SH, dt2) ∧ InvC dt2 ∧ Fr [51] dt dt2 ∧ ((r = none ∧ (ALLV (dt2 51) 6 p2)))) := by
  have hF : Fr [51] dt dt := Fr_refl
  refine go_toq PM261 (k := 5) (pc' := 5) (L' := [some (.inr (.inr (some 51))), some (.inl p2), some (.inl 0), some (.inl 6)]) (st' := []) (w' := (SH, dt)) rfl ?_
  have loop10 : ∀ (k_ : Nat) (l5_2 : Int) (dt5 : Nat → Nat → Int) (hI6 : InvC dt5) (hF7 : Fr [51] dt dt5) (i8 : 0 ≤ l5_2 ∧ l5_2 ≤ 6) (i9 : ALLV (dt5 51) l5_2 p2), (7 - l5_2).toNat < k_ → GO (am_XX L xs sio) (d) 261 5 [some (.inr (.inr (some 51))), some (.inl p2), some (.inl l5_2), some (.inl 6)] [] (SH, dt5) (fun r w2 => ∃ dt2 : Nat → Nat → Int, w2 = (SH, dt2) ∧ InvC dt2 ∧ Fr [51] dt dt2 ∧ ((r = none ∧ (ALLV (dt2 51) 6 p2)))) := by
    intro k_
    induction k_ with
    | zero => intro l5_2 dt5 hI6 hF7 i8 i9 hm; exact absurd hm (Nat.not_lt_zero _)
    | succ k_ ih_loop10 =>
      intro l5_2 dt5 hI6 hF7 i8 i9 hm
      have qA := i9
      refine go_ifq PM261 (k := 2) (p1 := 20) (p2 := 10) (L' := [some (.inr (.inr (some 51))), some (.inl p2), some (.inl l5_2), some (.inl 6)]) (st' := []) (w' := (SH, dt5)) rfl (c_ge (a := l5_2) (b := 6) (by first | exact bnd i8 (by decide) (by decide) | exact ⟨by fail, by fail⟩) ⟨by decide, by decide⟩) (fun c11 => ?_) (fun c11 => ?_)
      · skip
        refine go_retq PM261 (k := 0) (r := none) (w1 := (SH, dt5)) rfl ?_
        exact ⟨dt5, rfl, hI6, hF7, ⟨rfl, by exact ALLV_k qA (by omega) (fun j => rfl)⟩⟩
      · skip
        refine go_toq PM261 (k := 3) (pc' := 13) (L' := [some (.inr (.inr (some 51))), some (.inl p2), some (.inl l5_2), some (.inl 6)]) (st' := [.inl p2, .inl l5_2, .inr (.inr (some 51))]) (w' := (SH, dt5)) rfl ?_
        have hI12 : InvC (u2 dt5 51 (l5_2).toNat p2) := InvC_u2 hI6 (lo := -2147483648) (hi := 2147483647) rfl rfl rfl (by first | exact bnd1 h_p2 (by decide) | fail) (by first | exact bnd2 h_p2 (by decide) | fail)
        have hF13 : Fr [51] dt (u2 dt5 51 (l5_2).toNat p2) := Fr_u2 hF7 (by decide)
        refine go_smpq PM261 (L' := [some (.inr (.inr (some 51))), some (.inl p2), some (.inl l5_2), some (.inl 6)]) (st' := []) (w' := (SH, (u2 dt5 51 (l5_2).toNat p2))) rfl rfl (s_iast (n := 6) rfl (by first | exact bndc i8 c11 (by decide) (by decide) | exact bndx i8 (by decide) (by decide) | exact ⟨by fail, by fail⟩) (by first | exact bnd h_p2 (by decide) (by decide) | exact ⟨by fail, by fail⟩)) ?_
        refine go_toq PM261 (k := 2) (pc' := 5) (L' := [some (.inr (.inr (some 51))), some (.inl p2), some (.inl (l5_2 + 1)), some (.inl 6)]) (st' := []) (w' := (SH, (u2 dt5 51 (l5_2).toNat p2))) rfl ?_
        exact GO.le (ih_loop10 (l5_2 + 1) (u2 dt5 51 (l5_2).toNat p2) hI12 hF13 (by first | with_reducible assumption | omega | exact ALLV_0 (by fail) | exact ALLV_s qA (by fail) (by fail) (fun j hj => by (repeat rw [u2_ne (by fail)])) (by (repeat (first | rw [u2_eq] | rw [u2_ne (by fail)])))) (by first | with_reducible assumption | fail | exact ALLV_0 (by fail) | exact ALLV_s qA (by omega) (by omega) (fun j hj => by (repeat rw [u2_ne (by omega)])) (by (repeat (first | rw [u2_eq] | rw [u2_ne (by fail)])))) (by omega)) ⟨.inl rfl, .inl rfl, .inl rfl, .inl rfl, trivial⟩
  exact GO.le (loop10 _ 0 dt hI hF (by first | with_reducible assumption | omega | exact ALLV_0 (by fail) | exact ALLV_s qA (by fail) (by fail) (fun j hj => by (repeat rw [u2_ne (by fail)])) (by (repeat (first | rw [u2_eq] | rw [u2_ne (by fail)])))) (by first | with_reducible assumption | fail | exact ALLV_0 (by omega) | exact ALLV_s qA (by fail) (by fail) (fun j hj => by (repeat rw [u2_ne (by fail)])) (by (repeat (first | rw [u2_eq] | rw [u2_ne (by fail)])))) (Nat.lt_succ_self _)) ⟨.inl rfl, .inl rfl, .inl rfl, .inl rfl, trivial⟩
theorem sp_J7_fill_53178_w52 (L : Nat) (xs : Nat → Int32) (sio : Option Nat) (d : Nat) (dt : Nat → Nat → Int) (hI : InvC dt)  (p2 : Int) (h_p2 : (-1) ≤ p2 ∧ p2 ≤ 0)  : GO (am_XX L xs sio) (d) 261 0 [some (.inr (.inr (some 52))), some (.inl p2), none, none] [] (SH, dt) (fun r w2 => ∃ dt2 : Nat → Nat → Int, w2 = (SH, dt2) ∧ InvC dt2 ∧ Fr [52] dt dt2 ∧ ((r = none ∧ (ALLV (dt2 52) 12 p2)))) := by
  have hF : Fr [52] dt dt := Fr_refl
  refine go_toq PM261 (k := 5) (pc' := 5) (L' := [some (.inr (.inr (some 52))), some (.inl p2), some (.inl 0), some (.inl 12)]) (st' := []) (w' := (SH, dt)) rfl ?_
  have loop10 : ∀ (k_ : Nat) (l5_2 : Int) (dt5 : Nat → Nat → Int) (hI6 : InvC dt5) (hF7 : Fr [52] dt dt5) (i8 : 0 ≤ l5_2 ∧ l5_2 ≤ 12) (i9 : ALLV (dt5 52) l5_2 p2), (13 - l5_2).toNat < k_ → GO (am_XX L xs sio) (d) 261 5 [some (.inr (.inr (some 52))), some (.inl p2), some (.inl l5_2), some (.inl 12)] [] (SH, dt5) (fun r w2 => ∃ dt2 : Nat → Nat → Int, w2 = (SH, dt2) ∧ InvC dt2 ∧ Fr [52] dt dt2 ∧ ((r = none ∧ (ALLV (dt2 52) 12 p2)))) := by
    intro k_
    induction k_ with
    | zero => intro l5_2 dt5 hI6 hF7 i8 i9 hm; exact absurd hm (Nat.not_lt_zero _)
    | succ k_ ih_loop10 =>
      intro l5_2 dt5 hI6 hF7 i8 i9 hm
      have qA := i9
      refine go_ifq PM261 (k := 2) (p1 := 20) (p2 := 10) (L' := [some (.inr (.inr (some 52))), some (.inl p2), some (.inl l5_2), some (.inl 12)]) (st' := []) (w' := (SH, dt5)) rfl (c_ge (a := l5_2) (b := 12) (by first | exact bnd i8 (by decide) (by decide) | exact ⟨by fail, by fail⟩) ⟨by decide, by decide⟩) (fun c11 => ?_) (fun c11 => ?_)
      · skip
        refine go_retq PM261 (k := 0) (r := none) (w1 := (SH, dt5)) rfl ?_
        exact ⟨dt5, rfl, hI6, hF7, ⟨rfl, by exact ALLV_k qA (by omega) (fun j => rfl)⟩⟩
      · skip
        refine go_toq PM261 (k := 3) (pc' := 13) (L' := [some (.inr (.inr (some 52))), some (.inl p2), some (.inl l5_2), some (.inl 12)]) (st' := [.inl p2, .inl l5_2, .inr (.inr (some 52))]) (w' := (SH, dt5)) rfl ?_
        have hI12 : InvC (u2 dt5 52 (l5_2).toNat p2) := InvC_u2 hI6 (lo := -2147483648) (hi := 2147483647) rfl rfl rfl (by first | exact bnd1 h_p2 (by decide) | fail) (by first | exact bnd2 h_p2 (by decide) | fail)
        have hF13 : Fr [52] dt (u2 dt5 52 (l5_2).toNat p2) := Fr_u2 hF7 (by decide)
        refine go_smpq PM261 (L' := [some (.inr (.inr (some 52))), some (.inl p2), some (.inl l5_2), some (.inl 12)]) (st' := []) (w' := (SH, (u2 dt5 52 (l5_2).toNat p2))) rfl rfl (s_iast (n := 12) rfl (by first | exact bndc i8 c11 (by decide) (by decide) | exact bndx i8 (by decide) (by decide) | exact ⟨by fail, by fail⟩) (by first | exact bnd h_p2 (by decide) (by decide) | exact ⟨by fail, by fail⟩)) ?_
        refine go_toq PM261 (k := 2) (pc' := 5) (L' := [some (.inr (.inr (some 52))), some (.inl p2), some (.inl (l5_2 + 1)), some (.inl 12)]) (st' := []) (w' := (SH, (u2 dt5 52 (l5_2).toNat p2))) rfl ?_
        exact GO.le (ih_loop10 (l5_2 + 1) (u2 dt5 52 (l5_2).toNat p2) hI12 hF13 (by first | with_reducible assumption | omega | exact ALLV_0 (by fail) | exact ALLV_s qA (by fail) (by fail) (fun j hj => by (repeat rw [u2_ne (by fail)])) (by (repeat (first | rw [u2_eq] | rw [u2_ne (by fail)])))) (by first | with_reducible assumption | fail | exact ALLV_0 (by fail) | exact ALLV_s qA (by omega) (by omega) (fun j hj => by (repeat rw [u2_ne (by omega)])) (by (repeat (first | rw [u2_eq] | rw [u2_ne (by fail)])))) (by omega)) ⟨.inl rfl, .inl rfl, .inl rfl, .inl rfl, trivial⟩
  exact GO.le (loop10 _ 0 dt hI hF (by first | with_reducible assumption | omega | exact ALLV_0 (by fail) | exact ALLV_s qA (by fail) (by fail) (fun j hj => by (repeat rw [u2_ne (by fail)])) (by (repeat (first | rw [u2_eq] | rw [u2_ne (by fail)])))) (by first | with_reducible assumption | fail | exact ALLV_0 (by omega) | exact ALLV_s qA (by fail) (by fail) (fun j hj => by (repeat rw [u2_ne (by fail)])) (by (repeat (first | rw [u2_eq] | rw [u2_ne (by fail)])))) (Nat.lt_succ_self _)) ⟨.inl rfl, .inl rfl, .inl rfl, .inl rfl, trivial⟩
theorem sp_J7_fill_53178_w53 (L : Nat) (xs : Nat → Int32) (sio : Option Nat) (d : Nat) (dt : Nat → Nat → Int) (hI : InvC dt)  (p2 : Int) (h_p2 : (-1) ≤ p2 ∧ p2 ≤ 0)  : GO (am_XX L xs sio) (d) 261 0 [some (.inr (.inr (some 53))), some (.inl p2), none, none] [] (SH, dt) (fun r w2 => ∃ dt2 : Nat → Nat → Int, w2 = (SH, dt2) ∧ InvC dt2 ∧ Fr [53] dt dt2 ∧ ((r = none ∧ (ALLV (dt2 53) 12 p2)))) := by
  have hF : Fr [53] dt dt := Fr_refl
  refine go_toq PM261 (k := 5) (pc' := 5) (L' := [some (.inr (.inr (some 53))), some (.inl p2), some (.inl 0), some (.inl 12)]) (st' := []) (w' := (SH, dt)) rfl ?_
  have loop10 : ∀ (k_ : Nat) (l5_2 : Int) (dt5 : Nat → Nat → Int) (hI6 : InvC dt5) (hF7 : Fr [53] dt dt5) (i8 : 0 ≤ l5_2 ∧ l5_2 ≤ 12) (i9 : ALLV (dt5 53) l5_2 p2), (13 - l5_2).toNat < k_ → GO (am_XX L xs sio) (d) 261 5 [some (.inr (.inr (some 53))), some (.inl p2), some (.inl l5_2), some (.inl 12)] [] (SH, dt5) (fun r w2 => ∃ dt2 : Nat → Nat → Int, w2 = (SH, dt2) ∧ InvC dt2 ∧ Fr [53] dt dt2 ∧ ((r = none ∧ (ALLV (dt2 53) 12 p2)))) := by
    intro k_
    induction k_ with
    | zero => intro l5_2 dt5 hI6 hF7 i8 i9 hm; exact absurd hm (Nat.not_lt_zero _)
    | succ k_ ih_loop10 =>
      intro l5_2 dt5 hI6 hF7 i8 i9 hm
      have qA := i9
      refine go_ifq PM261 (k := 2) (p1 := 20) (p2 := 10) (L' := [some (.inr (.inr (some 53))), some (.inl p2), some (.inl l5_2), some (.inl 12)]) (st' := []) (w' := (SH, dt5)) rfl (c_ge (a := l5_2) (b := 12) (by first | exact bnd i8 (by decide) (by decide) | exact ⟨by fail, by fail⟩) ⟨by decide, by decide⟩) (fun c11 => ?_) (fun c11 => ?_)
      · skip
        refine go_retq PM261 (k := 0) (r := none) (w1 := (SH, dt5)) rfl ?_
        exact ⟨dt5, rfl, hI6, hF7, ⟨rfl, by exact ALLV_k qA (by omega) (fun j => rfl)⟩⟩
      · skip
        refine go_toq PM261 (k := 3) (pc' := 13) (L' := [some (.inr (.inr (some 53))), some (.inl p2), some (.inl l5_2), some (.inl 12)]) (st' := [.inl p2, .inl l5_2, .inr (.inr (some 53))]) (w' := (SH, dt5)) rfl ?_
        have hI12 : InvC (u2 dt5 53 (l5_2).toNat p2) := InvC_u2 hI6 (lo := -2147483648) (hi := 2147483647) rfl rfl rfl (by first | exact bnd1 h_p2 (by decide) | fail) (by first | exact bnd2 h_p2 (by decide) | fail)
        have hF13 : Fr [53] dt (u2 dt5 53 (l5_2).toNat p2) := Fr_u2 hF7 (by decide)
        refine go_smpq PM261 (L' := [some (.inr (.inr (some 53))), some (.inl p2), some (.inl l5_2), some (.inl 12)]) (st' := []) (w' := (SH, (u2 dt5 53 (l5_2).toNat p2))) rfl rfl (s_iast (n := 12) rfl (by first | exact bndc i8 c11 (by decide) (by decide) | exact bndx i8 (by decide) (by decide) | exact ⟨by fail, by fail⟩) (by first | exact bnd h_p2 (by decide) (by decide) | exact ⟨by fail, by fail⟩)) ?_
        refine go_toq PM261 (k := 2) (pc' := 5) (L' := [some (.inr (.inr (some 53))), some (.inl p2), some (.inl (l5_2 + 1)), some (.inl 12)]) (st' := []) (w' := (SH, (u2 dt5 53 (l5_2).toNat p2))) rfl ?_
        exact GO.le (ih_loop10 (l5_2 + 1) (u2 dt5 53 (l5_2).toNat p2) hI12 hF13 (by first | with_reducible assumption | omega | exact ALLV_0 (by fail) | exact ALLV_s qA (by fail) (by fail) (fun j hj => by (repeat rw [u2_ne (by fail)])) (by (repeat (first | rw [u2_eq] | rw [u2_ne (by fail)])))) (by first | with_reducible assumption | fail | exact ALLV_0 (by fail) | exact ALLV_s qA (by omega) (by omega) (fun j hj => by (repeat rw [u2_ne (by omega)])) (by (repeat (first | rw [u2_eq] | rw [u2_ne (by fail)])))) (by omega)) ⟨.inl rfl, .inl rfl, .inl rfl, .inl rfl, trivial⟩
  exact GO.le (loop10 _ 0 dt hI hF (by first | with_reducible assumption | omega | exact ALLV_0 (by fail) | exact ALLV_s qA (by fail) (by fail) (fun j hj => by (repeat rw [u2_ne (by fail)])) (by (repeat (first | rw [u2_eq] | rw [u2_ne (by fail)])))) (by first | with_reducible assumption | fail | exact ALLV_0 (by omega) | exact ALLV_s qA (by fail) (by fail) (fun j hj => by (repeat rw [u2_ne (by fail)])) (by (repeat (first | rw [u2_eq] | rw [u2_ne (by fail)])))) (Nat.lt_succ_self _)) ⟨.inl rfl, .inl rfl, .inl rfl, .inl rfl, trivial⟩
theorem sp_J7_fill_53178_w54 (L : Nat) (xs : Nat → Int32) (sio : Option Nat) (d : Nat) (dt : Nat → Nat → Int) (hI : InvC dt)  (p2 : Int) (h_p2 : (-1) ≤ p2 ∧ p2 ≤ 0)  : GO (am_XX L xs sio) (d) 261 0 [some (.inr (.inr (some 54))), some (.inl p2), none, none] [] (SH, dt) (fun r w2 => ∃ dt2 : Nat → Nat → Int, w2 = (SH, dt2) ∧ InvC dt2 ∧ Fr [54] dt dt2 ∧ ((r = none ∧ (ALLV (dt2 54) 12 p2)))) := by
  have hF : Fr [54] dt dt := Fr_refl
  refine go_toq PM261 (k := 5) (pc' := 5) (L' := [some (.inr (.inr (some 54))), some (.inl p2), some (.inl 0), some (.inl 12)]) (st' := []) (w' := (SH, dt)) rfl ?_
  have loop10 : ∀ (k_ : Nat) (l5_2 : Int) (dt5 : Nat → Nat → Int) (hI6 : InvC dt5) (hF7 : Fr [54] dt dt5) (i8 : 0 ≤ l5_2 ∧ l5_2 ≤ 12) (i9 : ALLV (dt5 54) l5_2 p2), (13 - l5_2).toNat < k_ → GO (am_XX L xs sio) (d) 261 5 [some (.inr (.inr (some 54))), some (.inl p2), some (.inl l5_2), some (.inl 12)] [] (SH, dt5) (fun r w2 => ∃ dt2 : Nat → Nat → Int, w2 = (SH, dt2) ∧ InvC dt2 ∧ Fr [54] dt dt2 ∧ ((r = none ∧ (ALLV (dt2 54) 12 p2)))) := by
    intro k_
    induction k_ with
    | zero => intro l5_2 dt5 hI6 hF7 i8 i9 hm; exact absurd hm (Nat.not_lt_zero _)
    | succ k_ ih_loop10 =>
      intro l5_2 dt5 hI6 hF7 i8 i9 hm
      have qA := i9
      refine go_ifq PM261 (k := 2) (p1 := 20) (p2 := 10) (L' := [some (.inr (.inr (some 54))), some (.inl p2), some (.inl l5_2), some (.inl 12)]) (st' := []) (w' := (SH, dt5)) rfl (c_ge (a := l5_2) (b := 12) (by first | exact bnd i8 (by decide) (by decide) | exact ⟨by fail, by fail⟩) ⟨by decide, by decide⟩) (fun c11 => ?_) (fun c11 => ?_)
      · skip
        refine go_retq PM261 (k := 0) (r := none) (w1 := (SH, dt5)) rfl ?_
        exact ⟨dt5, rfl, hI6, hF7, ⟨rfl, by exact ALLV_k qA (by omega) (fun j => rfl)⟩⟩
      · skip
        refine go_toq PM261 (k := 3) (pc' := 13) (L' := [some (.inr (.inr (some 54))), some (.inl p2), some (.inl l5_2), some (.inl 12)]) (st' := [.inl p2, .inl l5_2, .inr (.inr (some 54))]) (w' := (SH, dt5)) rfl ?_
        have hI12 : InvC (u2 dt5 54 (l5_2).toNat p2) := InvC_u2 hI6 (lo := -2147483648) (hi := 2147483647) rfl rfl rfl (by first | exact bnd1 h_p2 (by decide) | fail) (by first | exact bnd2 h_p2 (by decide) | fail)
        have hF13 : Fr [54] dt (u2 dt5 54 (l5_2).toNat p2) := Fr_u2 hF7 (by decide)
        refine go_smpq PM261 (L' := [some (.inr (.inr (some 54))), some (.inl p2), some (.inl l5_2), some (.inl 12)]) (st' := []) (w' := (SH, (u2 dt5 54 (l5_2).toNat p2))) rfl rfl (s_iast (n := 12) rfl (by first | exact bndc i8 c11 (by decide) (by decide) | exact bndx i8 (by decide) (by decide) | exact ⟨by fail, by fail⟩) (by first | exact bnd h_p2 (by decide) (by decide) | exact ⟨by fail, by fail⟩)) ?_
        refine go_toq PM261 (k := 2) (pc' := 5) (L' := [some (.inr (.inr (some 54))), some (.inl p2), some (.inl (l5_2 + 1)), some (.inl 12)]) (st' := []) (w' := (SH, (u2 dt5 54 (l5_2).toNat p2))) rfl ?_
        exact GO.le (ih_loop10 (l5_2 + 1) (u2 dt5 54 (l5_2).toNat p2) hI12 hF13 (by first | with_reducible assumption | omega | exact ALLV_0 (by fail) | exact ALLV_s qA (by fail) (by fail) (fun j hj => by (repeat rw [u2_ne (by fail)])) (by (repeat (first | rw [u2_eq] | rw [u2_ne (by fail)])))) (by first | with_reducible assumption | fail | exact ALLV_0 (by fail) | exact ALLV_s qA (by omega) (by omega) (fun j hj => by (repeat rw [u2_ne (by omega)])) (by (repeat (first | rw [u2_eq] | rw [u2_ne (by fail)])))) (by omega)) ⟨.inl rfl, .inl rfl, .inl rfl, .inl rfl, trivial⟩
  exact GO.le (loop10 _ 0 dt hI hF (by first | with_reducible assumption | omega | exact ALLV_0 (by fail) | exact ALLV_s qA (by fail) (by fail) (fun j hj => by (repeat rw [u2_ne (by fail)])) (by (repeat (first | rw [u2_eq] | rw [u2_ne (by fail)])))) (by first | with_reducible assumption | fail | exact ALLV_0 (by omega) | exact ALLV_s qA (by fail) (by fail) (fun j hj => by (repeat rw [u2_ne (by fail)])) (by (repeat (first | rw [u2_eq] | rw [u2_ne (by fail)])))) (Nat.lt_succ_self _)) ⟨.inl rfl, .inl rfl, .inl rfl, .inl rfl, trivial⟩
theorem sp_J7_fill_53178_w55 (L : Nat) (xs : Nat → Int32) (sio : Option Nat) (d : Nat) (dt : Nat → Nat → Int) (hI : InvC dt)  (p2 : Int) (h_p2 : (-1) ≤ p2 ∧ p2 ≤ 0)  : GO (am_XX L xs sio) (d) 261 0 [some (.inr (.inr (some 55))), some (.inl p2), none, none] [] (SH, dt) (fun r w2 => ∃ dt2 : Nat → Nat → Int, w2 = (SH, dt2) ∧ InvC dt2 ∧ Fr [55] dt dt2 ∧ ((r = none ∧ (ALLV (dt2 55) 12 p2)))) := by
  have hF : Fr [55] dt dt := Fr_refl
  refine go_toq PM261 (k := 5) (pc' := 5) (L' := [some (.inr (.inr (some 55))), some (.inl p2), some (.inl 0), some (.inl 12)]) (st' := []) (w' := (SH, dt)) rfl ?_
  have loop10 : ∀ (k_ : Nat) (l5_2 : Int) (dt5 : Nat → Nat → Int) (hI6 : InvC dt5) (hF7 : Fr [55] dt dt5) (i8 : 0 ≤ l5_2 ∧ l5_2 ≤ 12) (i9 : ALLV (dt5 55) l5_2 p2), (13 - l5_2).toNat < k_ → GO (am_XX L xs sio) (d) 261 5 [some (.inr (.inr (some 55))), some (.inl p2), some (.inl l5_2), some (.inl 12)] [] (SH, dt5) (fun r w2 => ∃ dt2 : Nat → Nat → Int, w2 = (SH, dt2) ∧ InvC dt2 ∧ Fr [55] dt dt2 ∧ ((r = none ∧ (ALLV (dt2 55) 12 p2)))) := by
    intro k_
    induction k_ with
    | zero => intro l5_2 dt5 hI6 hF7 i8 i9 hm; exact absurd hm (Nat.not_lt_zero _)
    | succ k_ ih_loop10 =>
      intro l5_2 dt5 hI6 hF7 i8 i9 hm
      have qA := i9
      refine go_ifq PM261 (k := 2) (p1 := 20) (p2 := 10) (L' := [some (.inr (.inr (some 55))), some (.inl p2), some (.inl l5_2), some (.inl 12)]) (st' := []) (w' := (SH, dt5)) rfl (c_ge (a := l5_2) (b := 12) (by first | exact bnd i8 (by decide) (by decide) | exact ⟨by fail, by fail⟩) ⟨by decide, by decide⟩) (fun c11 => ?_) (fun c11 => ?_)
      · skip
        refine go_retq PM261 (k := 0) (r := none) (w1 := (SH, dt5)) rfl ?_
        exact ⟨dt5, rfl, hI6, hF7, ⟨rfl, by exact ALLV_k qA (by omega) (fun j => rfl)⟩⟩
      · skip
        refine go_toq PM261 (k := 3) (pc' := 13) (L' := [some (.inr (.inr (some 55))), some (.inl p2), some (.inl l5_2), some (.inl 12)]) (st' := [.inl p2, .inl l5_2, .inr (.inr (some 55))]) (w' := (SH, dt5)) rfl ?_
        have hI12 : InvC (u2 dt5 55 (l5_2).toNat p2) := InvC_u2 hI6 (lo := -2147483648) (hi := 2147483647) rfl rfl rfl (by first | exact bnd1 h_p2 (by decide) | fail) (by first | exact bnd2 h_p2 (by decide) | fail)
        have hF13 : Fr [55] dt (u2 dt5 55 (l5_2).toNat p2) := Fr_u2 hF7 (by decide)
        refine go_smpq PM261 (L' := [some (.inr (.inr (some 55))), some (.inl p2), some (.inl l5_2), some (.inl 12)]) (st' := []) (w' := (SH, (u2 dt5 55 (l5_2).toNat p2))) rfl rfl (s_iast (n := 12) rfl (by first | exact bndc i8 c11 (by decide) (by decide) | exact bndx i8 (by decide) (by decide) | exact ⟨by fail, by fail⟩) (by first | exact bnd h_p2 (by decide) (by decide) | exact ⟨by fail, by fail⟩)) ?_
        refine go_toq PM261 (k := 2) (pc' := 5) (L' := [some (.inr (.inr (some 55))), some (.inl p2), some (.inl (l5_2 + 1)), some (.inl 12)]) (st' := []) (w' := (SH, (u2 dt5 55 (l5_2).toNat p2))) rfl ?_
        exact GO.le (ih_loop10 (l5_2 + 1) (u2 dt5 55 (l5_2).toNat p2) hI12 hF13 (by first | with_reducible assumption | omega | exact ALLV_0 (by fail) | exact ALLV_s qA (by fail) (by fail) (fun j hj => by (repeat rw [u2_ne (by fail)])) (by (repeat (first | rw [u2_eq] | rw [u2_ne (by fail)])))) (by first | with_reducible assumption | fail | exact ALLV_0 (by fail) | exact ALLV_s qA (by omega) (by omega) (fun j hj => by (repeat rw [u2_ne (by omega)])) (by (repeat (first | rw [u2_eq] | rw [u2_ne (by fail)])))) (by omega)) ⟨.inl rfl, .inl rfl, .inl rfl, .inl rfl, trivial⟩
  exact GO.le (loop10 _ 0 dt hI hF (by first | with_reducible assumption | omega | exact ALLV_0 (by fail) | exact ALLV_s qA (by fail) (by fail) (fun j hj => by (repeat rw [u2_ne (by fail)])) (by (repeat (first | rw [u2_eq] | rw [u2_ne (by fail)])))) (by first | with_reducible assumption | fail | exact ALLV_0 (by omega) | exact ALLV_s qA (by fail) (by fail) (fun j hj => by (repeat rw [u2_ne (by fail)])) (by (repeat (first | rw [u2_eq] | rw [u2_ne (by fail)])))) (Nat.lt_succ_self _)) ⟨.inl rfl, .inl rfl, .inl rfl, .inl rfl, trivial⟩
theorem sp_J7_fill_53178_w56 (L : Nat) (xs : Nat → Int32) (sio : Option Nat) (d : Nat) (dt : Nat → Nat → Int) (hI : InvC dt)  (p2 : Int) (h_p2 : (-1) ≤ p2 ∧ p2 ≤ 0)  : GO (am_XX L xs sio) (d) 261 0 [some (.inr (.inr (some 56))), some (.inl p2), none, none] [] (SH, dt) (fun r w2 => ∃ dt2 : Nat → Nat → Int, w2 = (SH, dt2) ∧ InvC dt2 ∧ Fr [56] dt dt2 ∧ ((r = none ∧ (ALLV (dt2 56) 48 p2)))) := by
  have hF : Fr [56] dt dt := Fr_refl
  refine go_toq PM261 (k := 5) (pc' := 5) (L' := [some (.inr (.inr (some 56))), some (.inl p2), some (.inl 0), some (.inl 48)]) (st' := []) (w' := (SH, dt)) rfl ?_
  have loop10 : ∀ (k_ : Nat) (l5_2 : Int) (dt5 : Nat → Nat → Int) (hI6 : InvC dt5) (hF7 : Fr [56] dt dt5) (i8 : 0 ≤ l5_2 ∧ l5_2 ≤ 48) (i9 : ALLV (dt5 56) l5_2 p2), (49 - l5_2).toNat < k_ → GO (am_XX L xs sio) (d) 261 5 [some (.inr (.inr (some 56))), some (.inl p2), some (.inl l5_2), some (.inl 48)] [] (SH, dt5) (fun r w2 => ∃ dt2 : Nat → Nat → Int, w2 = (SH, dt2) ∧ InvC dt2 ∧ Fr [56] dt dt2 ∧ ((r = none ∧ (ALLV (dt2 56) 48 p2)))) := by
    intro k_
    induction k_ with
    | zero => intro l5_2 dt5 hI6 hF7 i8 i9 hm; exact absurd hm (Nat.not_lt_zero _)
    | succ k_ ih_loop10 =>
      intro l5_2 dt5 hI6 hF7 i8 i9 hm
      have qA := i9
      refine go_ifq PM261 (k := 2) (p1 := 20) (p2 := 10) (L' := [some (.inr (.inr (some 56))), some (.inl p2), some (.inl l5_2), some (.inl 48)]) (st' := []) (w' := (SH, dt5)) rfl (c_ge (a := l5_2) (b := 48) (by first | exact bnd i8 (by decide) (by decide) | exact ⟨by fail, by fail⟩) ⟨by decide, by decide⟩) (fun c11 => ?_) (fun c11 => ?_)
      · skip
        refine go_retq PM261 (k := 0) (r := none) (w1 := (SH, dt5)) rfl ?_
        exact ⟨dt5, rfl, hI6, hF7, ⟨rfl, by exact ALLV_k qA (by omega) (fun j => rfl)⟩⟩
      · skip
        refine go_toq PM261 (k := 3) (pc' := 13) (L' := [some (.inr (.inr (some 56))), some (.inl p2), some (.inl l5_2), some (.inl 48)]) (st' := [.inl p2, .inl l5_2, .inr (.inr (some 56))]) (w' := (SH, dt5)) rfl ?_
        have hI12 : InvC (u2 dt5 56 (l5_2).toNat p2) := InvC_u2 hI6 (lo := -2147483648) (hi := 2147483647) rfl rfl rfl (by first | exact bnd1 h_p2 (by decide) | fail) (by first | exact bnd2 h_p2 (by decide) | fail)
        have hF13 : Fr [56] dt (u2 dt5 56 (l5_2).toNat p2) := Fr_u2 hF7 (by decide)
        refine go_smpq PM261 (L' := [some (.inr (.inr (some 56))), some (.inl p2), some (.inl l5_2), some (.inl 48)]) (st' := []) (w' := (SH, (u2 dt5 56 (l5_2).toNat p2))) rfl rfl (s_iast (n := 48) rfl (by first | exact bndc i8 c11 (by decide) (by decide) | exact bndx i8 (by decide) (by decide) | exact ⟨by fail, by fail⟩) (by first | exact bnd h_p2 (by decide) (by decide) | exact ⟨by fail, by fail⟩)) ?_
        refine go_toq PM261 (k := 2) (pc' := 5) (L' := [some (.inr (.inr (some 56))), some (.inl p2), some (.inl (l5_2 + 1)), some (.inl 48)]) (st' := []) (w' := (SH, (u2 dt5 56 (l5_2).toNat p2))) rfl ?_
        exact GO.le (ih_loop10 (l5_2 + 1) (u2 dt5 56 (l5_2).toNat p2) hI12 hF13 (by first | with_reducible assumption | omega | exact ALLV_0 (by fail) | exact ALLV_s qA (by fail) (by fail) (fun j hj => by (repeat rw [u2_ne (by fail)])) (by (repeat (first | rw [u2_eq] | rw [u2_ne (by fail)])))) (by first | with_reducible assumption | fail | exact ALLV_0 (by fail) | exact ALLV_s qA (by omega) (by omega) (fun j hj => by (repeat rw [u2_ne (by omega)])) (by (repeat (first | rw [u2_eq] | rw [u2_ne (by fail)])))) (by omega)) ⟨.inl rfl, .inl rfl, .inl rfl, .inl rfl, trivial⟩
  exact GO.le (loop10 _ 0 dt hI hF (by first | with_reducible assumption | omega | exact ALLV_0 (by fail) | exact ALLV_s qA (by fail) (by fail) (fun j hj => by (repeat rw [u2_ne (by fail)])) (by (repeat (first | rw [u2_eq] | rw [u2_ne (by fail)])))) (by first | with_reducible assumption | fail | exact ALLV_0 (by omega) | exact ALLV_s qA (by fail) (by fail) (fun j hj => by (repeat rw [u2_ne (by fail)])) (by (repeat (first | rw [u2_eq] | rw [u2_ne (by fail)])))) (Nat.lt_succ_self _)) ⟨.inl rfl, .inl rfl, .inl rfl, .inl rfl, trivial⟩
theorem sp_X4_begin_w (L : Nat) (xs : Nat → Int32) (sio : Option Nat) (d : Nat) (dt : Nat → Nat → Int) (hI : InvC dt)    : GO (am_XX L xs sio) (d + 1) 51 0 [some (.inr (.inr (some 43)))] [] (SH, dt) (fun r w2 => ∃ dt2 : Nat → Nat → Int, w2 = (SH, dt2) ∧ InvC dt2 ∧ Fr [44, 45, 46, 47, 48, 49, 50, 51, 52, 53, 54, 55, 56] dt dt2 ∧ ((r = none ∧ (VC 44 dt2 = W0)))) := by
  have hF : Fr [44, 45, 46, 47, 48, 49, 50, 51, 52, 53, 54, 55, 56] dt dt := Fr_refl
  refine go_toq PM51 (k := 3) (pc' := 5) (L' := [some (.inr (.inr (some 43)))]) (st' := [.inl 0, .inr (.inr (some 44))]) (w' := (SH, dt)) rfl ?_
  refine go_callq PM51 PM261 (Q' := _) rfl rfl rfl rfl (sp_J7_fill_53178_w44 L xs sio (d + 0) dt hI  0 ⟨by decide, by decide⟩ ) ?_
  rintro _ _ ⟨dt2, rfl, hI3, hF4, h1⟩
  refine ⟨rfl, ?_⟩
  have hF5 : Fr [44, 45, 46, 47, 48, 49, 50, 51, 52, 53, 54, 55, 56] dt dt2 := Fr_tr hF hF4 (by decide)
  rcases h1 with ⟨rfl, h1⟩
  refine go_toq PM51 (k := 3) (pc' := 13) (L' := [some (.inr (.inr (some 43)))]) (st' := [.inl (-1), .inr (.inr (some 45))]) (w' := (SH, dt2)) rfl ?_
  refine go_callq PM51 PM261 (Q' := _) rfl rfl rfl rfl (sp_J7_fill_53178_w45 L xs sio (d + 0) dt2 hI3  (-1) ⟨by decide, by decide⟩ ) ?_
  rintro _ _ ⟨dt7, rfl, hI8, hF9, h6⟩
  refine ⟨rfl, ?_⟩
  have hF10 : Fr [44, 45, 46, 47, 48, 49, 50, 51, 52, 53, 54, 55, 56] dt dt7 := Fr_tr hF5 hF9 (by decide)
  rcases h6 with ⟨rfl, h6⟩
  have b11 := ALLV_k h1 (Int.le_refl _) (hF9 44 (by decide))
  refine go_toq PM51 (k := 3) (pc' := 21) (L' := [some (.inr (.inr (some 43)))]) (st' := [.inl 0, .inr (.inr (some 46))]) (w' := (SH, dt7)) rfl ?_
  refine go_callq PM51 PM261 (Q' := _) rfl rfl rfl rfl (sp_J7_fill_53178_w46 L xs sio (d + 0) dt7 hI8  0 ⟨by decide, by decide⟩ ) ?_
  rintro _ _ ⟨dt13, rfl, hI14, hF15, h12⟩
  refine ⟨rfl, ?_⟩
  have hF16 : Fr [44, 45, 46, 47, 48, 49, 50, 51, 52, 53, 54, 55, 56] dt dt13 := Fr_tr hF10 hF15 (by decide)
  rcases h12 with ⟨rfl, h12⟩
  have b17 := ALLV_k b11 (Int.le_refl _) (hF15 44 (by decide))
  have b18 := ALLV_k h6 (Int.le_refl _) (hF15 45 (by decide))
  refine go_toq PM51 (k := 3) (pc' := 29) (L' := [some (.inr (.inr (some 43)))]) (st' := [.inl (-1), .inr (.inr (some 47))]) (w' := (SH, dt13)) rfl ?_
  refine go_callq PM51 PM261 (Q' := _) rfl rfl rfl rfl (sp_J7_fill_53178_w47 L xs sio (d + 0) dt13 hI14  (-1) ⟨by decide, by decide⟩ ) ?_
  rintro _ _ ⟨dt20, rfl, hI21, hF22, h19⟩
  refine ⟨rfl, ?_⟩
  have hF23 : Fr [44, 45, 46, 47, 48, 49, 50, 51, 52, 53, 54, 55, 56] dt dt20 := Fr_tr hF16 hF22 (by decide)
  rcases h19 with ⟨rfl, h19⟩
  have b24 := ALLV_k b17 (Int.le_refl _) (hF22 44 (by decide))
  have b25 := ALLV_k b18 (Int.le_refl _) (hF22 45 (by decide))
  have b26 := ALLV_k h12 (Int.le_refl _) (hF22 46 (by decide))
  refine go_toq PM51 (k := 3) (pc' := 37) (L' := [some (.inr (.inr (some 43)))]) (st' := [.inl (-1), .inr (.inr (some 48))]) (w' := (SH, dt20)) rfl ?_
  refine go_callq PM51 PM261 (Q' := _) rfl rfl rfl rfl (sp_J7_fill_53178_w48 L xs sio (d + 0) dt20 hI21  (-1) ⟨by decide, by decide⟩ ) ?_
  rintro _ _ ⟨dt28, rfl, hI29, hF30, h27⟩
  refine ⟨rfl, ?_⟩
  have hF31 : Fr [44, 45, 46, 47, 48, 49, 50, 51, 52, 53, 54, 55, 56] dt dt28 := Fr_tr hF23 hF30 (by decide)
  rcases h27 with ⟨rfl, h27⟩
  have b32 := ALLV_k b24 (Int.le_refl _) (hF30 44 (by decide))
  have b33 := ALLV_k b25 (Int.le_refl _) (hF30 45 (by decide))
  have b34 := ALLV_k b26 (Int.le_refl _) (hF30 46 (by decide))
  have b35 := ALLV_k h19 (Int.le_refl _) (hF30 47 (by decide))
  refine go_toq PM51 (k := 3) (pc' := 45) (L' := [some (.inr (.inr (some 43)))]) (st' := [.inl (-1), .inr (.inr (some 49))]) (w' := (SH, dt28)) rfl ?_
  refine go_callq PM51 PM261 (Q' := _) rfl rfl rfl rfl (sp_J7_fill_53178_w49 L xs sio (d + 0) dt28 hI29  (-1) ⟨by decide, by decide⟩ ) ?_
  rintro _ _ ⟨dt37, rfl, hI38, hF39, h36⟩
  refine ⟨rfl, ?_⟩
  have hF40 : Fr [44, 45, 46, 47, 48, 49, 50, 51, 52, 53, 54, 55, 56] dt dt37 := Fr_tr hF31 hF39 (by decide)
  rcases h36 with ⟨rfl, h36⟩
  have b41 := ALLV_k b32 (Int.le_refl _) (hF39 44 (by decide))
  have b42 := ALLV_k b33 (Int.le_refl _) (hF39 45 (by decide))
  have b43 := ALLV_k b34 (Int.le_refl _) (hF39 46 (by decide))
  have b44 := ALLV_k b35 (Int.le_refl _) (hF39 47 (by decide))
  have b45 := ALLV_k h27 (Int.le_refl _) (hF39 48 (by decide))
  refine go_toq PM51 (k := 3) (pc' := 53) (L' := [some (.inr (.inr (some 43)))]) (st' := [.inl 0, .inr (.inr (some 50))]) (w' := (SH, dt37)) rfl ?_
  refine go_callq PM51 PM261 (Q' := _) rfl rfl rfl rfl (sp_J7_fill_53178_w50 L xs sio (d + 0) dt37 hI38  0 ⟨by decide, by decide⟩ ) ?_
  rintro _ _ ⟨dt47, rfl, hI48, hF49, h46⟩
  refine ⟨rfl, ?_⟩
  have hF50 : Fr [44, 45, 46, 47, 48, 49, 50, 51, 52, 53, 54, 55, 56] dt dt47 := Fr_tr hF40 hF49 (by decide)
  rcases h46 with ⟨rfl, h46⟩
  have b51 := ALLV_k b41 (Int.le_refl _) (hF49 44 (by decide))
  have b52 := ALLV_k b42 (Int.le_refl _) (hF49 45 (by decide))
  have b53 := ALLV_k b43 (Int.le_refl _) (hF49 46 (by decide))
  have b54 := ALLV_k b44 (Int.le_refl _) (hF49 47 (by decide))
  have b55 := ALLV_k b45 (Int.le_refl _) (hF49 48 (by decide))
  have b56 := ALLV_k h36 (Int.le_refl _) (hF49 49 (by decide))
  refine go_toq PM51 (k := 3) (pc' := 61) (L' := [some (.inr (.inr (some 43)))]) (st' := [.inl (-1), .inr (.inr (some 51))]) (w' := (SH, dt47)) rfl ?_
  refine go_callq PM51 PM261 (Q' := _) rfl rfl rfl rfl (sp_J7_fill_53178_w51 L xs sio (d + 0) dt47 hI48  (-1) ⟨by decide, by decide⟩ ) ?_
  rintro _ _ ⟨dt58, rfl, hI59, hF60, h57⟩
  refine ⟨rfl, ?_⟩
  have hF61 : Fr [44, 45, 46, 47, 48, 49, 50, 51, 52, 53, 54, 55, 56] dt dt58 := Fr_tr hF50 hF60 (by decide)
  rcases h57 with ⟨rfl, h57⟩
  have b62 := ALLV_k b51 (Int.le_refl _) (hF60 44 (by decide))
  have b63 := ALLV_k b52 (Int.le_refl _) (hF60 45 (by decide))
  have b64 := ALLV_k b53 (Int.le_refl _) (hF60 46 (by decide))
  have b65 := ALLV_k b54 (Int.le_refl _) (hF60 47 (by decide))
  have b66 := ALLV_k b55 (Int.le_refl _) (hF60 48 (by decide))
  have b67 := ALLV_k b56 (Int.le_refl _) (hF60 49 (by decide))
  have b68 := ALLV_k h46 (Int.le_refl _) (hF60 50 (by decide))
  refine go_toq PM51 (k := 3) (pc' := 69) (L' := [some (.inr (.inr (some 43)))]) (st' := [.inl (-1), .inr (.inr (some 52))]) (w' := (SH, dt58)) rfl ?_
  refine go_callq PM51 PM261 (Q' := _) rfl rfl rfl rfl (sp_J7_fill_53178_w52 L xs sio (d + 0) dt58 hI59  (-1) ⟨by decide, by decide⟩ ) ?_
  rintro _ _ ⟨dt70, rfl, hI71, hF72, h69⟩
  refine ⟨rfl, ?_⟩
  have hF73 : Fr [44, 45, 46, 47, 48, 49, 50, 51, 52, 53, 54, 55, 56] dt dt70 := Fr_tr hF61 hF72 (by decide)
  rcases h69 with ⟨rfl, h69⟩
  have b74 := ALLV_k b62 (Int.le_refl _) (hF72 44 (by decide))
  have b75 := ALLV_k b63 (Int.le_refl _) (hF72 45 (by decide))
  have b76 := ALLV_k b64 (Int.le_refl _) (hF72 46 (by decide))
  have b77 := ALLV_k b65 (Int.le_refl _) (hF72 47 (by decide))
  have b78 := ALLV_k b66 (Int.le_refl _) (hF72 48 (by decide))
  have b79 := ALLV_k b67 (Int.le_refl _) (hF72 49 (by decide))
  have b80 := ALLV_k b68 (Int.le_refl _) (hF72 50 (by decide))
  have b81 := ALLV_k h57 (Int.le_refl _) (hF72 51 (by decide))
  refine go_toq PM51 (k := 3) (pc' := 77) (L' := [some (.inr (.inr (some 43)))]) (st' := [.inl (-1), .inr (.inr (some 53))]) (w' := (SH, dt70)) rfl ?_
  refine go_callq PM51 PM261 (Q' := _) rfl rfl rfl rfl (sp_J7_fill_53178_w53 L xs sio (d + 0) dt70 hI71  (-1) ⟨by decide, by decide⟩ ) ?_
  rintro _ _ ⟨dt83, rfl, hI84, hF85, h82⟩
  refine ⟨rfl, ?_⟩
  have hF86 : Fr [44, 45, 46, 47, 48, 49, 50, 51, 52, 53, 54, 55, 56] dt dt83 := Fr_tr hF73 hF85 (by decide)
  rcases h82 with ⟨rfl, h82⟩
  have b87 := ALLV_k b74 (Int.le_refl _) (hF85 44 (by decide))
  have b88 := ALLV_k b75 (Int.le_refl _) (hF85 45 (by decide))
  have b89 := ALLV_k b76 (Int.le_refl _) (hF85 46 (by decide))
  have b90 := ALLV_k b77 (Int.le_refl _) (hF85 47 (by decide))
  have b91 := ALLV_k b78 (Int.le_refl _) (hF85 48 (by decide))
  have b92 := ALLV_k b79 (Int.le_refl _) (hF85 49 (by decide))
  have b93 := ALLV_k b80 (Int.le_refl _) (hF85 50 (by decide))
  have b94 := ALLV_k b81 (Int.le_refl _) (hF85 51 (by decide))
  have b95 := ALLV_k h69 (Int.le_refl _) (hF85 52 (by decide))
  refine go_toq PM51 (k := 3) (pc' := 85) (L' := [some (.inr (.inr (some 43)))]) (st' := [.inl (-1), .inr (.inr (some 54))]) (w' := (SH, dt83)) rfl ?_
  refine go_callq PM51 PM261 (Q' := _) rfl rfl rfl rfl (sp_J7_fill_53178_w54 L xs sio (d + 0) dt83 hI84  (-1) ⟨by decide, by decide⟩ ) ?_
  rintro _ _ ⟨dt97, rfl, hI98, hF99, h96⟩
  refine ⟨rfl, ?_⟩
  have hF100 : Fr [44, 45, 46, 47, 48, 49, 50, 51, 52, 53, 54, 55, 56] dt dt97 := Fr_tr hF86 hF99 (by decide)
  rcases h96 with ⟨rfl, h96⟩
  have b101 := ALLV_k b87 (Int.le_refl _) (hF99 44 (by decide))
  have b102 := ALLV_k b88 (Int.le_refl _) (hF99 45 (by decide))
  have b103 := ALLV_k b89 (Int.le_refl _) (hF99 46 (by decide))
  have b104 := ALLV_k b90 (Int.le_refl _) (hF99 47 (by decide))
  have b105 := ALLV_k b91 (Int.le_refl _) (hF99 48 (by decide))
  have b106 := ALLV_k b92 (Int.le_refl _) (hF99 49 (by decide))
  have b107 := ALLV_k b93 (Int.le_refl _) (hF99 50 (by decide))
  have b108 := ALLV_k b94 (Int.le_refl _) (hF99 51 (by decide))
  have b109 := ALLV_k b95 (Int.le_refl _) (hF99 52 (by decide))
  have b110 := ALLV_k h82 (Int.le_refl _) (hF99 53 (by decide))
  refine go_toq PM51 (k := 3) (pc' := 93) (L' := [some (.inr (.inr (some 43)))]) (st' := [.inl 0, .inr (.inr (some 55))]) (w' := (SH, dt97)) rfl ?_
  refine go_callq PM51 PM261 (Q' := _) rfl rfl rfl rfl (sp_J7_fill_53178_w55 L xs sio (d + 0) dt97 hI98  0 ⟨by decide, by decide⟩ ) ?_
  rintro _ _ ⟨dt112, rfl, hI113, hF114, h111⟩
  refine ⟨rfl, ?_⟩
  have hF115 : Fr [44, 45, 46, 47, 48, 49, 50, 51, 52, 53, 54, 55, 56] dt dt112 := Fr_tr hF100 hF114 (by decide)
  rcases h111 with ⟨rfl, h111⟩
  have b116 := ALLV_k b101 (Int.le_refl _) (hF114 44 (by decide))
  have b117 := ALLV_k b102 (Int.le_refl _) (hF114 45 (by decide))
  have b118 := ALLV_k b103 (Int.le_refl _) (hF114 46 (by decide))
  have b119 := ALLV_k b104 (Int.le_refl _) (hF114 47 (by decide))
  have b120 := ALLV_k b105 (Int.le_refl _) (hF114 48 (by decide))
  have b121 := ALLV_k b106 (Int.le_refl _) (hF114 49 (by decide))
  have b122 := ALLV_k b107 (Int.le_refl _) (hF114 50 (by decide))
  have b123 := ALLV_k b108 (Int.le_refl _) (hF114 51 (by decide))
  have b124 := ALLV_k b109 (Int.le_refl _) (hF114 52 (by decide))
  have b125 := ALLV_k b110 (Int.le_refl _) (hF114 53 (by decide))
  have b126 := ALLV_k h96 (Int.le_refl _) (hF114 54 (by decide))
  refine go_toq PM51 (k := 3) (pc' := 101) (L' := [some (.inr (.inr (some 43)))]) (st' := [.inl (-1), .inr (.inr (some 56))]) (w' := (SH, dt112)) rfl ?_
  refine go_callq PM51 PM261 (Q' := _) rfl rfl rfl rfl (sp_J7_fill_53178_w56 L xs sio (d + 0) dt112 hI113  (-1) ⟨by decide, by decide⟩ ) ?_
  rintro _ _ ⟨dt128, rfl, hI129, hF130, h127⟩
  refine ⟨rfl, ?_⟩
  have hF131 : Fr [44, 45, 46, 47, 48, 49, 50, 51, 52, 53, 54, 55, 56] dt dt128 := Fr_tr hF115 hF130 (by decide)
  rcases h127 with ⟨rfl, h127⟩
  have b132 := ALLV_k b116 (Int.le_refl _) (hF130 44 (by decide))
  have b133 := ALLV_k b117 (Int.le_refl _) (hF130 45 (by decide))
  have b134 := ALLV_k b118 (Int.le_refl _) (hF130 46 (by decide))
  have b135 := ALLV_k b119 (Int.le_refl _) (hF130 47 (by decide))
  have b136 := ALLV_k b120 (Int.le_refl _) (hF130 48 (by decide))
  have b137 := ALLV_k b121 (Int.le_refl _) (hF130 49 (by decide))
  have b138 := ALLV_k b122 (Int.le_refl _) (hF130 50 (by decide))
  have b139 := ALLV_k b123 (Int.le_refl _) (hF130 51 (by decide))
  have b140 := ALLV_k b124 (Int.le_refl _) (hF130 52 (by decide))
  have b141 := ALLV_k b125 (Int.le_refl _) (hF130 53 (by decide))
  have b142 := ALLV_k b126 (Int.le_refl _) (hF130 54 (by decide))
  have b143 := ALLV_k h111 (Int.le_refl _) (hF130 55 (by decide))
  refine go_retq PM51 (k := 0) (r := none) (w1 := (SH, dt128)) rfl ?_
  exact ⟨dt128, rfl, hI129, hF131, ⟨rfl, by exact W0_c13 b132 b133 b134 b135 b136 b137 b138 b139 b140 b141 b142 b143 h127⟩⟩
theorem sp_X5_play_w (L : Nat) (xs : Nat → Int32) (sio : Option Nat) (d : Nat) (dt : Nat → Nat → Int) (hI : InvC dt) (hM : MW (dt 80))  (p1 : Int) (h_p1 : 0 ≤ p1 ∧ p1 ≤ 7) (h_p0 : SCL (dt 2) (dt 3) (dt 80)) : GO (am_XX L xs sio) (d + 4) 113 0 [some (.inr (.inr (some 0))), some (.inl p1), none] [] (SH, dt) (fun r w2 => ∃ dt2 : Nat → Nat → Int, w2 = (SH, dt2) ∧ InvC dt2 ∧ Fr [44, 45, 46, 47, 48, 49, 50, 51, 52, 53, 54, 55, 56] dt dt2 ∧ ((r = none ∧ (VC 44 dt2 = wend (dt 80) p1)))) := by
  have hF : Fr [44, 45, 46, 47, 48, 49, 50, 51, 52, 53, 54, 55, 56] dt dt := Fr_refl
  have hs_ := h_p0 p1.toNat (by omega)
  have hn_ := MW_am hM p1 ⟨by omega, by omega⟩
  have ei_ : 6 + p1.toNat = (6 + p1).toNat := by omega
  rw [ei_] at hs_
  refine go_toq PM113 (k := 2) (pc' := 4) (L' := [some (.inr (.inr (some 0))), some (.inl p1), none]) (st' := [.inr (.inr (some 43))]) (w' := (SH, dt)) rfl ?_
  refine go_callq PM113 PM51 (Q' := _) rfl rfl rfl rfl (sp_X4_begin_w L xs sio (d + 2) dt hI   ) ?_
  rintro _ _ ⟨dt2, rfl, hI3, hF4, h1⟩
  refine ⟨rfl, ?_⟩
  have hF5 : Fr [44, 45, 46, 47, 48, 49, 50, 51, 52, 53, 54, 55, 56] dt dt2 := Fr_tr hF hF4 (by decide)
  rcases h1 with ⟨rfl, h1⟩
  refine go_toq PM113 (k := 1) (pc' := 8) (L' := [some (.inr (.inr (some 0))), some (.inl p1), none]) (st' := [.inl p1]) (w' := (SH, dt2)) rfl ?_
  refine go_callq PM113 PM102 (Q' := _) rfl rfl rfl rfl (sp_X5_isScene L xs sio (d + 2) dt2 hI3  p1 (by first | exact h_p1 | exact bnd h_p1 (by decide) (by decide) | exact ⟨by omega, by omega⟩) ) ?_
  rintro _ _ ⟨rfl, h6⟩
  refine ⟨rfl, ?_⟩
  rcases h6 with ⟨rfl, h6⟩ | ⟨rfl, h6⟩
  · skip
    refine go_toq PM113 (k := 3) (pc' := 17) (L' := [some (.inr (.inr (some 0))), some (.inl p1), some (.inl 0)]) (st' := []) (w' := (SH, dt2)) rfl ?_
    have loop24 : ∀ (k_ : Nat) (l17_2 : Int) (dt18 : Nat → Nat → Int) (hI19 : InvC dt18) (hF20 : Fr [44, 45, 46, 47, 48, 49, 50, 51, 52, 53, 54, 55, 56] dt dt18) (i21 : 0 ≤ l17_2 ∧ l17_2 ≤ 24) (i22 : VC 44 dt18 = wpl (dt 80) (14 + 120 * p1.toNat) l17_2.toNat) (i23 : l17_2 ≤ dt 80 (6 + p1).toNat), (25 - l17_2).toNat < k_ → GO (am_XX L xs sio) (d + 4) 113 17 [some (.inr (.inr (some 0))), some (.inl p1), some (.inl l17_2)] [] (SH, dt18) (fun r w2 => ∃ dt2 : Nat → Nat → Int, w2 = (SH, dt2) ∧ InvC dt2 ∧ Fr [44, 45, 46, 47, 48, 49, 50, 51, 52, 53, 54, 55, 56] dt dt2 ∧ ((r = none ∧ (VC 44 dt2 = wend (dt 80) p1)))) := by
      intro k_
      induction k_ with
      | zero => intro l17_2 dt18 hI19 hF20 i21 i22 i23 hm; exact absurd hm (Nat.not_lt_zero _)
      | succ k_ ih_loop24 =>
        intro l17_2 dt18 hI19 hF20 i21 i22 i23 hm
        have qW := i22
        refine go_toq PM113 (k := 5) (pc' := 26) (L' := [some (.inr (.inr (some 0))), some (.inl p1), some (.inl l17_2)]) (st' := [.inl p1, .inr (.inr (some 3)), .inl l17_2]) (w' := (SH, dt18)) rfl ?_
        have r25 : (-2147483648) ≤ dt 3 (p1).toNat ∧ dt 3 (p1).toNat ≤ 2147483647 := InvC_get hI 3 (p1).toNat rfl rfl
        refine go_smpq PM113 (L' := [some (.inr (.inr (some 0))), some (.inl p1), some (.inl l17_2)]) (st' := [.inl (dt 3 (p1).toNat), .inl l17_2]) (w' := (SH, dt18)) rfl rfl (s_ev (s_iald (n := 8) (f := dt18 3) rfl (by first | exact bndx h_p1 (by decide) (by decide) | exact ⟨by omega, by omega⟩)) (hF20 3 (by decide) _)) ?_
        refine go_ifq PM113 (k := 0) (p1 := 63) (p2 := 30) (L' := [some (.inr (.inr (some 0))), some (.inl p1), some (.inl l17_2)]) (st' := []) (w' := (SH, dt18)) rfl (c_ge (a := l17_2) (b := dt 3 (p1).toNat) (by first | exact bnd i21 (by decide) (by decide) | exact ⟨by omega, by omega⟩) (by first | exact bnd r25 (by decide) (by decide) | exact ⟨by omega, by omega⟩)) (fun c26 => ?_) (fun c26 => ?_)
        · skip
          refine go_retq PM113 (k := 0) (r := none) (w1 := (SH, dt18)) rfl ?_
          exact ⟨dt18, rfl, hI19, hF20, ⟨rfl, by first | (exfalso; omega) | exact wend_e qW (by omega)⟩⟩
        · skip
          refine go_ifq PM113 (k := 2) (p1 := 63) (p2 := 36) (L' := [some (.inr (.inr (some 0))), some (.inl p1), some (.inl l17_2)]) (st' := []) (w' := (SH, dt18)) rfl (c_ge (a := l17_2) (b := 24) (by first | exact bnd i21 (by decide) (by decide) | exact bndd i21 c26 (by decide) (by decide) | exact ⟨by omega, by omega⟩) ⟨by decide, by decide⟩) (fun c27 => ?_) (fun c27 => ?_)
          · skip
            refine go_retq PM113 (k := 0) (r := none) (w1 := (SH, dt18)) rfl ?_
            exact ⟨dt18, rfl, hI19, hF20, ⟨rfl, by first | (exfalso; omega) | exact wend_e qW (by omega)⟩⟩
          · skip
            refine go_toq PM113 (k := 10) (pc' := 53) (L' := [some (.inr (.inr (some 0))), some (.inl p1), some (.inl l17_2)]) (st' := [.inl ((p1 * 24) + l17_2), .inr (.inr (some 2)), .inr (.inr (some 43))]) (w' := (SH, dt18)) rfl ?_
            have r28 : (-2147483648) ≤ dt 2 (((p1 * 24) + l17_2).toNat) ∧ dt 2 (((p1 * 24) + l17_2).toNat) ≤ 2147483647 := InvC_get hI 2 (((p1 * 24) + l17_2).toNat) rfl rfl
            refine go_smpq PM113 (L' := [some (.inr (.inr (some 0))), some (.inl p1), some (.inl l17_2)]) (st' := [.inl (dt 2 (((p1 * 24) + l17_2).toNat)), .inr (.inr (some 43))]) (w' := (SH, dt18)) rfl rfl (s_ev (s_iald (n := 192) (f := dt18 2) rfl ⟨by omega, by omega⟩) (hF20 2 (by decide) _)) ?_
            refine go_callq PM113 PM53 (Q' := _) rfl rfl rfl rfl (sp_X4_act_w44 L xs sio (d + 0) dt18 hI19 (dt 80 (14 + 120 * p1.toNat + 5 * l17_2.toNat)) (dt 80 (14 + 120 * p1.toNat + 5 * l17_2.toNat + 1)) (dt 80 (14 + 120 * p1.toNat + 5 * l17_2.toNat + 2)) (dt 80 (14 + 120 * p1.toNat + 5 * l17_2.toNat + 3)) (dt 80 (14 + 120 * p1.toNat + 5 * l17_2.toNat + 4)) (dt 2 (((p1 * 24) + l17_2).toNat)) (by first | exact bnd r28 (by decide) (by decide) | exact ⟨by omega, by omega⟩) (by first | exact True.intro | with_reducible assumption | rfl | omega | trivial | (rw [qW]; exact WOK_m (WOK_pl hM (by omega) _ (by omega)) (by omega)) | (rw [show ((p1 * 24) + l17_2).toNat = 24 * p1.toNat + l17_2.toNat by first | with_reducible assumption | omega]; exact hs_.2 _ (by omega))) (by first | exact True.intro | with_reducible assumption | rfl | omega | trivial | (rw [qW]; exact WOK_m (WOK_pl hM (by omega) _ (by omega)) (by omega)) | (rw [show ((p1 * 24) + l17_2).toNat = 24 * p1.toNat + l17_2.toNat by first | with_reducible assumption | omega]; exact hs_.2 _ (by omega)))) ?_
            rintro _ _ ⟨dt30, rfl, hI31, hF32, h29⟩
            refine ⟨rfl, ?_⟩
            have hF33 : Fr [44, 45, 46, 47, 48, 49, 50, 51, 52, 53, 54, 55, 56] dt dt30 := Fr_tr hF20 hF32 (by decide)
            rcases h29 with ⟨rfl, h29⟩
            have WE34 := h29
            refine go_toq PM113 (k := 2) (pc' := 17) (L' := [some (.inr (.inr (some 0))), some (.inl p1), some (.inl (l17_2 + 1))]) (st' := []) (w' := (SH, dt30)) rfl ?_
            exact GO.le (ih_loop24 (l17_2 + 1) dt30 hI31 hF33 (by first | with_reducible assumption | omega | exact WE34 | exact wpl_s qW (by omega) WE34 rfl rfl rfl rfl rfl) (by first | with_reducible assumption | omega | exact WE34 | exact wpl_s qW (by omega) WE34 rfl rfl rfl rfl rfl) (by first | with_reducible assumption | omega | exact WE34 | exact wpl_s qW (by omega) WE34 rfl rfl rfl rfl rfl) (by omega)) ⟨.inl rfl, .inl rfl, .inl rfl, trivial⟩
    exact GO.le (loop24 _ 0 dt2 hI3 hF5 (by first | with_reducible assumption | omega | exact h1 | exact wpl_s qW (by omega) h1 rfl rfl rfl rfl rfl) (by first | with_reducible assumption | omega | exact h1 | exact wpl_s qW (by omega) h1 rfl rfl rfl rfl rfl) (by first | with_reducible assumption | omega | exact h1 | exact wpl_s qW (by omega) h1 rfl rfl rfl rfl rfl) (Nat.lt_succ_self _)) ⟨.inl rfl, .inl rfl, .inl rfl, trivial⟩
  · skip
    refine go_retq PM113 (k := 1) (r := none) (w1 := (SH, dt2)) rfl ?_
    exact ⟨dt2, rfl, hI3, hF5, ⟨rfl, by first | (exfalso; omega) | exact wend_e qW (by omega)⟩⟩
set_option maxRecDepth 20000 in
theorem sp_X6_goes_w (L : Nat) (xs : Nat → Int32) (sio : Option Nat) (d : Nat) (dt : Nat → Nat → Int) (hI : InvC dt) (hM : MW (dt 80))  (p1 : Int) (h_p1 : 0 ≤ p1 ∧ p1 ≤ 7)  : GO (am_XX L xs sio) (d + 4) 184 0 [some (.inr (.inr (some 79))), some (.inl p1), none, none] [] (SH, dt) (fun r w2 => ∃ dt2 : Nat → Nat → Int, w2 = (SH, dt2) ∧ InvC dt2 ∧ Fr [88, 89, 90, 91, 92, 93, 94, 95, 96, 97, 98, 99, 100] dt dt2 ∧ ((r = none ∧ (VR dt2 = wend (dt 80) p1)))) := by
  have hF : Fr [88, 89, 90, 91, 92, 93, 94, 95, 96, 97, 98, 99, 100] dt dt := Fr_refl
  have hn_ := MW_am hM p1 ⟨by omega, by omega⟩
  refine go_toq PM184 (k := 1) (pc' := 1) (L' := [some (.inr (.inr (some 79))), some (.inl p1), none, none]) (st' := [.inr (.inr (some 79))]) (w' := (SH, dt)) rfl ?_
  refine go_callq PM184 PM177 (Q' := _) rfl rfl rfl rfl (sp_X6_begins_w L xs sio (d + 3) dt hI   ) ?_
  rintro _ _ ⟨dt2, rfl, hI3, hF4, h1⟩
  refine ⟨rfl, ?_⟩
  have hF5 : Fr [88, 89, 90, 91, 92, 93, 94, 95, 96, 97, 98, 99, 100] dt dt2 := Fr_tr hF hF4 (by decide)
  rcases h1 with ⟨rfl, h1⟩
  refine go_toq PM184 (k := 2) (pc' := 6) (L' := [some (.inr (.inr (some 79))), some (.inl p1), some (.inl 0), none]) (st' := []) (w' := (SH, dt2)) rfl ?_
  have loop27 : ∀ (k_ : Nat) (l6_2 : Int) (dt21 : Nat → Nat → Int) (hI22 : InvC dt21) (hF23 : Fr [88, 89, 90, 91, 92, 93, 94, 95, 96, 97, 98, 99, 100] dt dt21) (i24 : 0 ≤ l6_2 ∧ l6_2 ≤ 24) (i25 : VR dt21 = wpl (dt 80) (14 + 120 * p1.toNat) l6_2.toNat) (i26 : l6_2 ≤ dt 80 (6 + p1).toNat), (25 - l6_2).toNat < k_ → GO (am_XX L xs sio) (d + 4) 184 6 [some (.inr (.inr (some 79))), some (.inl p1), some (.inl l6_2), none] [] (SH, dt21) (fun r w2 => ∃ dt2 : Nat → Nat → Int, w2 = (SH, dt2) ∧ InvC dt2 ∧ Fr [88, 89, 90, 91, 92, 93, 94, 95, 96, 97, 98, 99, 100] dt dt2 ∧ ((r = none ∧ (VR dt2 = wend (dt 80) p1)))) := by
    intro k_
    induction k_ with
    | zero => intro l6_2 dt21 hI22 hF23 i24 i25 i26 hm; exact absurd hm (Nat.not_lt_zero _)
    | succ k_ ih_loop27 =>
      intro l6_2 dt21 hI22 hF23 i24 i25 i26 hm
      have qW := i25
      refine go_toq PM184 (k := 6) (pc' := 15) (L' := [some (.inr (.inr (some 79))), some (.inl p1), some (.inl l6_2), none]) (st' := [.inl (6 + p1), .inr (.inr (some 80)), .inl l6_2]) (w' := (SH, dt21)) rfl ?_
      have r28 : (-2147483648) ≤ dt 80 ((6 + p1).toNat) ∧ dt 80 ((6 + p1).toNat) ≤ 2147483647 := InvC_get hI 80 ((6 + p1).toNat) rfl rfl
      have r29 := MW_am hM (p1) ⟨by omega, by omega⟩
      refine go_smpq PM184 (L' := [some (.inr (.inr (some 79))), some (.inl p1), some (.inl l6_2), none]) (st' := [.inl (dt 80 ((6 + p1).toNat)), .inl l6_2]) (w' := (SH, dt21)) rfl rfl (s_ev (s_iald (n := 7460) (f := dt21 80) rfl ⟨by omega, by omega⟩) (hF23 80 (by decide) _)) ?_
      refine go_ifq PM184 (k := 0) (p1 := 79) (p2 := 19) (L' := [some (.inr (.inr (some 79))), some (.inl p1), some (.inl l6_2), none]) (st' := []) (w' := (SH, dt21)) rfl (c_ge (a := l6_2) (b := dt 80 ((6 + p1).toNat)) (by first | exact bnd i24 (by decide) (by decide) | exact ⟨by fail, by fail⟩) (by first | exact bnd r28 (by decide) (by decide) | exact ⟨by fail, by fail⟩)) (fun c30 => ?_) (fun c30 => ?_)
      · skip
        refine go_retq PM184 (k := 0) (r := none) (w1 := (SH, dt21)) rfl ?_
        exact ⟨dt21, rfl, hI22, hF23, ⟨rfl, by exact wend_e qW (by omega)⟩⟩
      · skip
        refine go_toq PM184 (k := 14) (pc' := 37) (L' := [some (.inr (.inr (some 79))), some (.inl p1), some (.inl l6_2), some (.inl (14 + (5 * ((24 * p1) + l6_2))))]) (st' := [.inl (14 + (5 * ((24 * p1) + l6_2))), .inr (.inr (some 80)), .inr (.inr (some 79))]) (w' := (SH, dt21)) rfl ?_
        have r31 : (-2147483648) ≤ dt 80 ((14 + (5 * ((24 * p1) + l6_2))).toNat) ∧ dt 80 ((14 + (5 * ((24 * p1) + l6_2))).toNat) ≤ 2147483647 := InvC_get hI 80 ((14 + (5 * ((24 * p1) + l6_2))).toNat) rfl rfl
        have r32 := MW_a hM (((24 * p1) + l6_2)) ⟨by omega, by omega⟩
        refine go_smpq PM184 (L' := [some (.inr (.inr (some 79))), some (.inl p1), some (.inl l6_2), some (.inl (14 + (5 * ((24 * p1) + l6_2))))]) (st' := [.inl (dt 80 ((14 + (5 * ((24 * p1) + l6_2))).toNat)), .inr (.inr (some 79))]) (w' := (SH, dt21)) rfl rfl (s_ev (s_iald (n := 7460) (f := dt21 80) rfl ⟨by omega, by omega⟩) (hF23 80 (by decide) _)) ?_
        refine go_toq PM184 (k := 5) (pc' := 45) (L' := [some (.inr (.inr (some 79))), some (.inl p1), some (.inl l6_2), some (.inl (14 + (5 * ((24 * p1) + l6_2))))]) (st' := [.inl ((14 + (5 * ((24 * p1) + l6_2))) + 1), .inr (.inr (some 80)), .inl (dt 80 ((14 + (5 * ((24 * p1) + l6_2))).toNat)), .inr (.inr (some 79))]) (w' := (SH, dt21)) rfl ?_
        have r33 : (-2147483648) ≤ dt 80 (((14 + (5 * ((24 * p1) + l6_2))) + 1).toNat) ∧ dt 80 (((14 + (5 * ((24 * p1) + l6_2))) + 1).toNat) ≤ 2147483647 := InvC_get hI 80 (((14 + (5 * ((24 * p1) + l6_2))) + 1).toNat) rfl rfl
        refine go_smpq PM184 (L' := [some (.inr (.inr (some 79))), some (.inl p1), some (.inl l6_2), some (.inl (14 + (5 * ((24 * p1) + l6_2))))]) (st' := [.inl (dt 80 (((14 + (5 * ((24 * p1) + l6_2))) + 1).toNat)), .inl (dt 80 ((14 + (5 * ((24 * p1) + l6_2))).toNat)), .inr (.inr (some 79))]) (w' := (SH, dt21)) rfl rfl (s_ev (s_iald (n := 7460) (f := dt21 80) rfl ⟨by omega, by omega⟩) (hF23 80 (by decide) _)) ?_
        refine go_toq PM184 (k := 5) (pc' := 53) (L' := [some (.inr (.inr (some 79))), some (.inl p1), some (.inl l6_2), some (.inl (14 + (5 * ((24 * p1) + l6_2))))]) (st' := [.inl ((14 + (5 * ((24 * p1) + l6_2))) + 2), .inr (.inr (some 80)), .inl (dt 80 (((14 + (5 * ((24 * p1) + l6_2))) + 1).toNat)), .inl (dt 80 ((14 + (5 * ((24 * p1) + l6_2))).toNat)), .inr (.inr (some 79))]) (w' := (SH, dt21)) rfl ?_
        have r34 : (-2147483648) ≤ dt 80 (((14 + (5 * ((24 * p1) + l6_2))) + 2).toNat) ∧ dt 80 (((14 + (5 * ((24 * p1) + l6_2))) + 2).toNat) ≤ 2147483647 := InvC_get hI 80 (((14 + (5 * ((24 * p1) + l6_2))) + 2).toNat) rfl rfl
        refine go_smpq PM184 (L' := [some (.inr (.inr (some 79))), some (.inl p1), some (.inl l6_2), some (.inl (14 + (5 * ((24 * p1) + l6_2))))]) (st' := [.inl (dt 80 (((14 + (5 * ((24 * p1) + l6_2))) + 2).toNat)), .inl (dt 80 (((14 + (5 * ((24 * p1) + l6_2))) + 1).toNat)), .inl (dt 80 ((14 + (5 * ((24 * p1) + l6_2))).toNat)), .inr (.inr (some 79))]) (w' := (SH, dt21)) rfl rfl (s_ev (s_iald (n := 7460) (f := dt21 80) rfl ⟨by omega, by omega⟩) (hF23 80 (by decide) _)) ?_
        refine go_toq PM184 (k := 5) (pc' := 61) (L' := [some (.inr (.inr (some 79))), some (.inl p1), some (.inl l6_2), some (.inl (14 + (5 * ((24 * p1) + l6_2))))]) (st' := [.inl ((14 + (5 * ((24 * p1) + l6_2))) + 3), .inr (.inr (some 80)), .inl (dt 80 (((14 + (5 * ((24 * p1) + l6_2))) + 2).toNat)), .inl (dt 80 (((14 + (5 * ((24 * p1) + l6_2))) + 1).toNat)), .inl (dt 80 ((14 + (5 * ((24 * p1) + l6_2))).toNat)), .inr (.inr (some 79))]) (w' := (SH, dt21)) rfl ?_
        have r35 : (-2147483648) ≤ dt 80 (((14 + (5 * ((24 * p1) + l6_2))) + 3).toNat) ∧ dt 80 (((14 + (5 * ((24 * p1) + l6_2))) + 3).toNat) ≤ 2147483647 := InvC_get hI 80 (((14 + (5 * ((24 * p1) + l6_2))) + 3).toNat) rfl rfl
        refine go_smpq PM184 (L' := [some (.inr (.inr (some 79))), some (.inl p1), some (.inl l6_2), some (.inl (14 + (5 * ((24 * p1) + l6_2))))]) (st' := [.inl (dt 80 (((14 + (5 * ((24 * p1) + l6_2))) + 3).toNat)), .inl (dt 80 (((14 + (5 * ((24 * p1) + l6_2))) + 2).toNat)), .inl (dt 80 (((14 + (5 * ((24 * p1) + l6_2))) + 1).toNat)), .inl (dt 80 ((14 + (5 * ((24 * p1) + l6_2))).toNat)), .inr (.inr (some 79))]) (w' := (SH, dt21)) rfl rfl (s_ev (s_iald (n := 7460) (f := dt21 80) rfl ⟨by omega, by omega⟩) (hF23 80 (by decide) _)) ?_
        refine go_toq PM184 (k := 5) (pc' := 69) (L' := [some (.inr (.inr (some 79))), some (.inl p1), some (.inl l6_2), some (.inl (14 + (5 * ((24 * p1) + l6_2))))]) (st' := [.inl ((14 + (5 * ((24 * p1) + l6_2))) + 4), .inr (.inr (some 80)), .inl (dt 80 (((14 + (5 * ((24 * p1) + l6_2))) + 3).toNat)), .inl (dt 80 (((14 + (5 * ((24 * p1) + l6_2))) + 2).toNat)), .inl (dt 80 (((14 + (5 * ((24 * p1) + l6_2))) + 1).toNat)), .inl (dt 80 ((14 + (5 * ((24 * p1) + l6_2))).toNat)), .inr (.inr (some 79))]) (w' := (SH, dt21)) rfl ?_
        have r36 : (-2147483648) ≤ dt 80 (((14 + (5 * ((24 * p1) + l6_2))) + 4).toNat) ∧ dt 80 (((14 + (5 * ((24 * p1) + l6_2))) + 4).toNat) ≤ 2147483647 := InvC_get hI 80 (((14 + (5 * ((24 * p1) + l6_2))) + 4).toNat) rfl rfl
        refine go_smpq PM184 (L' := [some (.inr (.inr (some 79))), some (.inl p1), some (.inl l6_2), some (.inl (14 + (5 * ((24 * p1) + l6_2))))]) (st' := [.inl (dt 80 (((14 + (5 * ((24 * p1) + l6_2))) + 4).toNat)), .inl (dt 80 (((14 + (5 * ((24 * p1) + l6_2))) + 3).toNat)), .inl (dt 80 (((14 + (5 * ((24 * p1) + l6_2))) + 2).toNat)), .inl (dt 80 (((14 + (5 * ((24 * p1) + l6_2))) + 1).toNat)), .inl (dt 80 ((14 + (5 * ((24 * p1) + l6_2))).toNat)), .inr (.inr (some 79))]) (w' := (SH, dt21)) rfl rfl (s_ev (s_iald (n := 7460) (f := dt21 80) rfl ⟨by omega, by omega⟩) (hF23 80 (by decide) _)) ?_
        refine go_callq PM184 PM183 (Q' := _) rfl rfl rfl rfl (sp_X6_acts_w L xs sio (d + 0) dt21 hI22  (dt 80 ((14 + (5 * ((24 * p1) + l6_2))).toNat)) (by first | exact bnd r31 (by decide) (by decide) | exact ⟨by omega, by omega⟩) (dt 80 (((14 + (5 * ((24 * p1) + l6_2))) + 1).toNat)) (by first | exact bnd r33 (by decide) (by decide) | exact ⟨by omega, by omega⟩) (dt 80 (((14 + (5 * ((24 * p1) + l6_2))) + 2).toNat)) (by first | exact bnd r34 (by decide) (by decide) | exact ⟨by fail, by fail⟩) (dt 80 (((14 + (5 * ((24 * p1) + l6_2))) + 3).toNat)) (by first | exact bnd r35 (by decide) (by decide) | exact ⟨by fail, by fail⟩) (dt 80 (((14 + (5 * ((24 * p1) + l6_2))) + 4).toNat)) (by first | exact bnd r36 (by decide) (by decide) | exact ⟨by fail, by fail⟩) (by first | exact True.intro | with_reducible assumption | rfl | fail | trivial | (rw [qW]; exact WOK_m (WOK_pl hM (by omega) _ (by omega)) (by omega))) (by first | exact True.intro | with_reducible assumption | rfl | omega | trivial | (rw [qW]; exact WOK_m (WOK_pl hM (by fail) _ (by fail)) (by fail))) (by first | exact True.intro | with_reducible assumption | rfl | omega | trivial | (rw [qW]; exact WOK_m (WOK_pl hM (by fail) _ (by fail)) (by fail))) (by first | exact True.intro | with_reducible assumption | rfl | omega | trivial | (rw [qW]; exact WOK_m (WOK_pl hM (by fail) _ (by fail)) (by fail))) (by first | exact True.intro | with_reducible assumption | rfl | omega | trivial | (rw [qW]; exact WOK_m (WOK_pl hM (by fail) _ (by fail)) (by fail))) (by first | exact True.intro | with_reducible assumption | rfl | omega | trivial | (rw [qW]; exact WOK_m (WOK_pl hM (by fail) _ (by fail)) (by fail)))) ?_
        rintro _ _ ⟨dt38, rfl, hI39, hF40, h37⟩
        refine ⟨rfl, ?_⟩
        have hF41 : Fr [88, 89, 90, 91, 92, 93, 94, 95, 96, 97, 98, 99, 100] dt dt38 := Fr_tr hF23 hF40 (by decide)
        rcases h37 with ⟨rfl, h37⟩
        refine go_toq PM184 (k := 2) (pc' := 6) (L' := [some (.inr (.inr (some 79))), some (.inl p1), some (.inl (l6_2 + 1)), some (.inl (14 + (5 * ((24 * p1) + l6_2))))]) (st' := []) (w' := (SH, dt38)) rfl ?_
        exact GO.le (ih_loop27 (l6_2 + 1) dt38 hI39 hF41 (by first | with_reducible assumption | omega | exact h37 | exact wpl_s qW (by fail) h37 (by fail) (by fail) (by fail) (by fail) (by fail)) (by first | with_reducible assumption | fail | exact h37 | exact wpl_s qW (by omega) h37 (by omega) (by omega) (by omega) (by omega) (by omega)) (by first | with_reducible assumption | omega | exact h37 | exact wpl_s qW (by fail) h37 (by fail) (by fail) (by fail) (by fail) (by fail)) (by omega)) ⟨.inl rfl, .inl rfl, .inl rfl, .inr ⟨rfl, trivial⟩, trivial⟩
  exact GO.le (loop27 _ 0 dt2 hI3 hF5 (by first | with_reducible assumption | omega | exact h1 | exact wpl_s qW (by fail) h1 (by fail) (by fail) (by fail) (by fail) (by fail)) (by first | with_reducible assumption | fail | exact h1 | exact wpl_s qW (by fail) h1 (by fail) (by fail) (by fail) (by fail) (by fail)) (by first | with_reducible assumption | omega | exact h1 | exact wpl_s qW (by fail) h1 (by fail) (by fail) (by fail) (by fail) (by fail)) (Nat.lt_succ_self _)) ⟨.inl rfl, .inl rfl, .inl rfl, .inl rfl, trivial⟩
