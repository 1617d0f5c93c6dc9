theorem sp_J7_fill_53178_w44 (L : Nat) (xs : Nat → Int32) (sio : Option Nat) (d : Nat) (dt : Nat → Nat → Int) (hI : InvC dt)  (p2 : Int) (h_p2 : (-1) ≤ p2 ∧ p2 ≤ 0)  : GO (am_XX L xs sio) (d) 261 0 [some (.inr (.inr (some 44))), some (.inl p2), none, none] [] (SH, dt) (fun r w2 => ∃ dt2 : Nat → Nat → Int, w2 = (SH, dt2) ∧ InvC dt2 ∧ Fr [44] dt dt2 ∧ ((r = none ∧ (ALLV (dt2 44) 4 p2)))) := by
  have hF : Fr [44] dt dt := Fr_refl
  refine go_toq PM261 (k := 5) (pc' := 5) (L' := [some (.inr (.inr (some 44))), some (.inl p2), some (.inl 0), some (.inl 4)]) (st' := []) (w' := (SH, dt)) rfl ?_
  have loop10 : ∀ (k_ : Nat) (l5_2 : Int) (dt5 : Nat → Nat → Int) (hI6 : InvC dt5) (hF7 : Fr [44] dt dt5) (i8 : 0 ≤ l5_2 ∧ l5_2 ≤ 4) (i9 : ALLV (dt5 44) l5_2 p2), (5 - l5_2).toNat < k_ → GO (am_XX L xs sio) (d) 261 5 [some (.inr (.inr (some 44))), some (.inl p2), some (.inl l5_2), some (.inl 4)] [] (SH, dt5) (fun r w2 => ∃ dt2 : Nat → Nat → Int, w2 = (SH, dt2) ∧ InvC dt2 ∧ Fr [44] dt dt2 ∧ ((r = none ∧ (ALLV (dt2 44) 4 p2)))) := by
    intro k_
    induction k_ with
    | zero => intro l5_2 dt5 hI6 hF7 i8 i9 hm; exact absurd hm (Nat.not_lt_zero _)
    | succ k_ ih_loop10 =>
      intro l5_2 dt5 hI6 hF7 i8 i9 hm
      have qA := i9
      refine go_ifq PM261 (k := 2) (p1 := 20) (p2 := 10) (L' := [some (.inr (.inr (some 44))), some (.inl p2), some (.inl l5_2), some (.inl 4)]) (st' := []) (w' := (SH, dt5)) rfl (c_ge (a := l5_2) (b := 4) (by first | exact bnd i8 (by decide) (by decide) | exact ⟨by fail, by fail⟩) ⟨by decide, by decide⟩) (fun c11 => ?_) (fun c11 => ?_)
      · skip
        refine go_retq PM261 (k := 0) (r := none) (w1 := (SH, dt5)) rfl ?_
        exact ⟨dt5, rfl, hI6, hF7, ⟨rfl, by exact ALLV_k qA (by omega) (fun j => rfl)⟩⟩
      · skip
        refine go_toq PM261 (k := 3) (pc' := 13) (L' := [some (.inr (.inr (some 44))), some (.inl p2), some (.inl l5_2), some (.inl 4)]) (st' := [.inl p2, .inl l5_2, .inr (.inr (some 44))]) (w' := (SH, dt5)) rfl ?_
        have hI12 : InvC (u2 dt5 44 (l5_2).toNat p2) := InvC_u2 hI6 (lo := -2147483648) (hi := 2147483647) rfl rfl rfl (by first | exact bnd1 h_p2 (by decide) | fail) (by first | exact bnd2 h_p2 (by decide) | fail)
        have hF13 : Fr [44] dt (u2 dt5 44 (l5_2).toNat p2) := Fr_u2 hF7 (by decide)
        refine go_smpq PM261 (L' := [some (.inr (.inr (some 44))), some (.inl p2), some (.inl l5_2), some (.inl 4)]) (st' := []) (w' := (SH, (u2 dt5 44 (l5_2).toNat p2))) rfl rfl (s_iast (n := 4) rfl (by first | exact bndc i8 c11 (by decide) (by decide) | exact bndx i8 (by decide) (by decide) | exact ⟨by fail, by fail⟩) (by first | exact bnd h_p2 (by decide) (by decide) | exact ⟨by fail, by fail⟩)) ?_
        refine go_toq PM261 (k := 2) (pc' := 5) (L' := [some (.inr (.inr (some 44))), some (.inl p2), some (.inl (l5_2 + 1)), some (.inl 4)]) (st' := []) (w' := (SH, (u2 dt5 44 (l5_2).toNat p2))) rfl ?_
        exact GO.le (ih_loop10 (l5_2 + 1) (u2 dt5 44 (l5_2).toNat p2) hI12 hF13 (by first | with_reducible assumption | omega | exact ALLV_0 (by fail) | exact ALLV_s qA (by fail) (by fail) (fun j hj => by (repeat rw [u2_ne (by fail)])) (by (repeat (first | rw [u2_eq] | rw [u2_ne (by fail)])))) (by first | with_reducible assumption | fail | exact ALLV_0 (by fail) | exact ALLV_s qA (by omega) (by omega) (fun j hj => by (repeat rw [u2_ne (by omega)])) (by (repeat (first | rw [u2_eq] | rw [u2_ne (by fail)])))) (by omega)) ⟨.inl rfl, .inl rfl, .inl rfl, .inl rfl, trivial⟩
  exact GO.le (loop10 _ 0 dt hI hF (by first | with_reducible assumption | omega | exact ALLV_0 (by fail) | exact ALLV_s qA (by fail) (by fail) (fun j hj => by (repeat rw [u2_ne (by fail)])) (by (repeat (first | rw [u2_eq] | rw [u2_ne (by fail)])))) (by first | with_reducible assumption | fail | exact ALLV_0 (by omega) | exact ALLV_s qA (by fail) (by fail) (fun j hj => by (repeat rw [u2_ne (by fail)])) (by (repeat (first | rw [u2_eq] | rw [u2_ne (by fail)])))) (Nat.lt_succ_self _)) ⟨.inl rfl, .inl rfl, .inl rfl, .inl rfl, trivial⟩
theorem sp_J7_fill_53178_w45 (L : Nat) (xs : Nat → Int32) (sio : Option Nat) (d : Nat) (dt : Nat → Nat → Int) (hI : InvC dt)  (p2 : Int) (h_p2 : (-1) ≤ p2 ∧ p2 ≤ 0)  : GO (am_XX L xs sio) (d) 261 0 [some (.inr (.inr (some 45))), some (.inl p2), none, none] [] (SH, dt) (fun r w2 => ∃ dt2 : Nat → Nat → Int, w2 = (SH, dt2) ∧ InvC dt2 ∧ Fr [45] dt dt2 ∧ ((r = none ∧ (ALLV (dt2 45) 4 p2)))) := by
  have hF : Fr [45] dt dt := Fr_refl
  refine go_toq PM261 (k := 5) (pc' := 5) (L' := [some (.inr (.inr (some 45))), some (.inl p2), some (.inl 0), some (.inl 4)]) (st' := []) (w' := (SH, dt)) rfl ?_
  have loop10 : ∀ (k_ : Nat) (l5_2 : Int) (dt5 : Nat → Nat → Int) (hI6 : InvC dt5) (hF7 : Fr [45] dt dt5) (i8 : 0 ≤ l5_2 ∧ l5_2 ≤ 4) (i9 : ALLV (dt5 45) l5_2 p2), (5 - l5_2).toNat < k_ → GO (am_XX L xs sio) (d) 261 5 [some (.inr (.inr (some 45))), some (.inl p2), some (.inl l5_2), some (.inl 4)] [] (SH, dt5) (fun r w2 => ∃ dt2 : Nat → Nat → Int, w2 = (SH, dt2) ∧ InvC dt2 ∧ Fr [45] dt dt2 ∧ ((r = none ∧ (ALLV (dt2 45) 4 p2)))) := by
    intro k_
    induction k_ with
    | zero => intro l5_2 dt5 hI6 hF7 i8 i9 hm; exact absurd hm (Nat.not_lt_zero _)
    | succ k_ ih_loop10 =>
      intro l5_2 dt5 hI6 hF7 i8 i9 hm
      have qA := i9
      refine go_ifq PM261 (k := 2) (p1 := 20) (p2 := 10) (L' := [some (.inr (.inr (some 45))), some (.inl p2), some (.inl l5_2), some (.inl 4)]) (st' := []) (w' := (SH, dt5)) rfl (c_ge (a := l5_2) (b := 4) (by first | exact bnd i8 (by decide) (by decide) | exact ⟨by fail, by fail⟩) ⟨by decide, by decide⟩) (fun c11 => ?_) (fun c11 => ?_)
      · skip
        refine go_retq PM261 (k := 0) (r := none) (w1 := (SH, dt5)) rfl ?_
        exact ⟨dt5, rfl, hI6, hF7, ⟨rfl, by exact ALLV_k qA (by omega) (fun j => rfl)⟩⟩
      · skip
        refine go_toq PM261 (k := 3) (pc' := 13) (L' := [some (.inr (.inr (some 45))), some (.inl p2), some (.inl l5_2), some (.inl 4)]) (st' := [.inl p2, .inl l5_2, .inr (.inr (some 45))]) (w' := (SH, dt5)) rfl ?_
        have hI12 : InvC (u2 dt5 45 (l5_2).toNat p2) := InvC_u2 hI6 (lo := -2147483648) (hi := 2147483647) rfl rfl rfl (by first | exact bnd1 h_p2 (by decide) | fail) (by first | exact bnd2 h_p2 (by decide) | fail)
        have hF13 : Fr [45] dt (u2 dt5 45 (l5_2).toNat p2) := Fr_u2 hF7 (by decide)
        refine go_smpq PM261 (L' := [some (.inr (.inr (some 45))), some (.inl p2), some (.inl l5_2), some (.inl 4)]) (st' := []) (w' := (SH, (u2 dt5 45 (l5_2).toNat p2))) rfl rfl (s_iast (n := 4) rfl (by first | exact bndc i8 c11 (by decide) (by decide) | exact bndx i8 (by decide) (by decide) | exact ⟨by fail, by fail⟩) (by first | exact bnd h_p2 (by decide) (by decide) | exact ⟨by fail, by fail⟩)) ?_
        refine go_toq PM261 (k := 2) (pc' := 5) (L' := [some (.inr (.inr (some 45))), some (.inl p2), some (.inl (l5_2 + 1)), some (.inl 4)]) (st' := []) (w' := (SH, (u2 dt5 45 (l5_2).toNat p2))) rfl ?_
        exact GO.le (ih_loop10 (l5_2 + 1) (u2 dt5 45 (l5_2).toNat p2) hI12 hF13 (by first | with_reducible assumption | omega | exact ALLV_0 (by fail) | exact ALLV_s qA (by fail) (by fail) (fun j hj => by (repeat rw [u2_ne (by fail)])) (by (repeat (first | rw [u2_eq] | rw [u2_ne (by fail)])))) (by first | with_reducible assumption | fail | exact ALLV_0 (by fail) | exact ALLV_s qA (by omega) (by omega) (fun j hj => by (repeat rw [u2_ne (by omega)])) (by (repeat (first | rw [u2_eq] | rw [u2_ne (by fail)])))) (by omega)) ⟨.inl rfl, .inl rfl, .inl rfl, .inl rfl, trivial⟩
  exact GO.le (loop10 _ 0 dt hI hF (by first | with_reducible assumption | omega | exact ALLV_0 (by fail) | exact ALLV_s qA (by fail) (by fail) (fun j hj => by (repeat rw [u2_ne (by fail)])) (by (repeat (first | rw [u2_eq] | rw [u2_ne (by fail)])))) (by first | with_reducible assumption | fail | exact ALLV_0 (by omega) | exact ALLV_s qA (by fail) (by fail) (fun j hj => by (repeat rw [u2_ne (by fail)])) (by (repeat (first | rw [u2_eq] | rw [u2_ne (by fail)])))) (Nat.lt_succ_self _)) ⟨.inl rfl, .inl rfl, .inl rfl, .inl rfl, trivial⟩
theorem sp_J7_fill_53178_w46 (L : Nat) (xs : Nat → Int32) (sio : Option Nat) (d : Nat) (dt : Nat → Nat → Int) (hI : InvC dt)  (p2 : Int) (h_p2 : (-1) ≤ p2 ∧ p2 ≤ 0)  : GO (am_XX L xs sio) (d) 261 0 [some (.inr (.inr (some 46))), some (.inl p2), none, none] [] (SH, dt) (fun r w2 => ∃ dt2 : Nat → Nat → Int, w2 = (SH, dt2) ∧ InvC dt2 ∧ Fr [46] dt dt2 ∧ ((r = none ∧ (ALLV (dt2 46) 8 p2)))) := by
  have hF : Fr [46] dt dt := Fr_refl
  refine go_toq PM261 (k := 5) (pc' := 5) (L' := [some (.inr (.inr (some 46))), some (.inl p2), some (.inl 0), some (.inl 8)]) (st' := []) (w' := (SH, dt)) rfl ?_
  have loop10 : ∀ (k_ : Nat) (l5_2 : Int) (dt5 : Nat → Nat → Int) (hI6 : InvC dt5) (hF7 : Fr [46] dt dt5) (i8 : 0 ≤ l5_2 ∧ l5_2 ≤ 8) (i9 : ALLV (dt5 46) l5_2 p2), (9 - l5_2).toNat < k_ → GO (am_XX L xs sio) (d) 261 5 [some (.inr (.inr (some 46))), some (.inl p2), some (.inl l5_2), some (.inl 8)] [] (SH, dt5) (fun r w2 => ∃ dt2 : Nat → Nat → Int, w2 = (SH, dt2) ∧ InvC dt2 ∧ Fr [46] dt dt2 ∧ ((r = none ∧ (ALLV (dt2 46) 8 p2)))) := by
    intro k_
    induction k_ with
    | zero => intro l5_2 dt5 hI6 hF7 i8 i9 hm; exact absurd hm (Nat.not_lt_zero _)
    | succ k_ ih_loop10 =>
      intro l5_2 dt5 hI6 hF7 i8 i9 hm
      have qA := i9
      refine go_ifq PM261 (k := 2) (p1 := 20) (p2 := 10) (L' := [some (.inr (.inr (some 46))), some (.inl p2), some (.inl l5_2), some (.inl 8)]) (st' := []) (w' := (SH, dt5)) rfl (c_ge (a := l5_2) (b := 8) (by first | exact bnd i8 (by decide) (by decide) | exact ⟨by fail, by fail⟩) ⟨by decide, by decide⟩) (fun c11 => ?_) (fun c11 => ?_)
      · skip
        refine go_retq PM261 (k := 0) (r := none) (w1 := (SH, dt5)) rfl ?_
        exact ⟨dt5, rfl, hI6, hF7, ⟨rfl, by exact ALLV_k qA (by omega) (fun j => rfl)⟩⟩
      · skip
        refine go_toq PM261 (k := 3) (pc' := 13) (L' := [some (.inr (.inr (some 46))), some (.inl p2), some (.inl l5_2), some (.inl 8)]) (st' := [.inl p2, .inl l5_2, .inr (.inr (some 46))]) (w' := (SH, dt5)) rfl ?_
        have hI12 : InvC (u2 dt5 46 (l5_2).toNat p2) := InvC_u2 hI6 (lo := -2147483648) (hi := 2147483647) rfl rfl rfl (by first | exact bnd1 h_p2 (by decide) | fail) (by first | exact bnd2 h_p2 (by decide) | fail)
        have hF13 : Fr [46] dt (u2 dt5 46 (l5_2).toNat p2) := Fr_u2 hF7 (by decide)
        refine go_smpq PM261 (L' := [some (.inr (.inr (some 46))), some (.inl p2), some (.inl l5_2), some (.inl 8)]) (st' := []) (w' := (SH, (u2 dt5 46 (l5_2).toNat p2))) rfl rfl (s_iast (n := 8) rfl (by first | exact bndc i8 c11 (by decide) (by decide) | exact bndx i8 (by decide) (by decide) | exact ⟨by fail, by fail⟩) (by first | exact bnd h_p2 (by decide) (by decide) | exact ⟨by fail, by fail⟩)) ?_
        refine go_toq PM261 (k := 2) (pc' := 5) (L' := [some (.inr (.inr (some 46))), some (.inl p2), some (.inl (l5_2 + 1)), some (.inl 8)]) (st' := []) (w' := (SH, (u2 dt5 46 (l5_2).toNat p2))) rfl ?_
        exact GO.le (ih_loop10 (l5_2 + 1) (u2 dt5 46 (l5_2).toNat p2) hI12 hF13 (by first | with_reducible assumption | omega | exact ALLV_0 (by fail) | exact ALLV_s qA (by fail) (by fail) (fun j hj => by (repeat rw [u2_ne (by fail)])) (by (repeat (first | rw [u2_eq] | rw [u2_ne (by fail)])))) (by first | with_reducible assumption | fail | exact ALLV_0 (by fail) | exact ALLV_s qA (by omega) (by omega) (fun j hj => by (repeat rw [u2_ne (by omega)])) (by (repeat (first | rw [u2_eq] | rw [u2_ne (by fail)])))) (by omega)) ⟨.inl rfl, .inl rfl, .inl rfl, .inl rfl, trivial⟩
  exact GO.le (loop10 _ 0 dt hI hF (by first | with_reducible assumption | omega | exact ALLV_0 (by fail) | exact ALLV_s qA (by fail) (by fail) (fun j hj => by (repeat rw [u2_ne (by fail)])) (by (repeat (first | rw [u2_eq] | rw [u2_ne (by fail)])))) (by first | with_reducible assumption | fail | exact ALLV_0 (by omega) | exact ALLV_s qA (by fail) (by fail) (fun j hj => by (repeat rw [u2_ne (by fail)])) (by (repeat (first | rw [u2_eq] | rw [u2_ne (by fail)])))) (Nat.lt_succ_self _)) ⟨.inl rfl, .inl rfl, .inl rfl, .inl rfl, trivial⟩
theorem sp_J7_fill_53178_w47 (L : Nat) (xs : Nat → Int32) (sio : Option Nat) (d : Nat) (dt : Nat → Nat → Int) (hI : InvC dt)  (p2 : Int) (h_p2 : (-1) ≤ p2 ∧ p2 ≤ 0)  : GO (am_XX L xs sio) (d) 261 0 [some (.inr (.inr (some 47))), some (.inl p2), none, none] [] (SH, dt) (fun r w2 => ∃ dt2 : Nat → Nat → Int, w2 = (SH, dt2) ∧ InvC dt2 ∧ Fr [47] dt dt2 ∧ ((r = none ∧ (ALLV (dt2 47) 3 p2)))) := by
  have hF : Fr [47] dt dt := Fr_refl
  refine go_toq PM261 (k := 5) (pc' := 5) (L' := [some (.inr (.inr (some 47))), some (.inl p2), some (.inl 0), some (.inl 3)]) (st' := []) (w' := (SH, dt)) rfl ?_
  have loop10 : ∀ (k_ : Nat) (l5_2 : Int) (dt5 : Nat → Nat → Int) (hI6 : InvC dt5) (hF7 : Fr [47] dt dt5) (i8 : 0 ≤ l5_2 ∧ l5_2 ≤ 3) (i9 : ALLV (dt5 47) l5_2 p2), (4 - l5_2).toNat < k_ → GO (am_XX L xs sio) (d) 261 5 [some (.inr (.inr (some 47))), some (.inl p2), some (.inl l5_2), some (.inl 3)] [] (SH, dt5) (fun r w2 => ∃ dt2 : Nat → Nat → Int, w2 = (SH, dt2) ∧ InvC dt2 ∧ Fr [47] dt dt2 ∧ ((r = none ∧ (ALLV (dt2 47) 3 p2)))) := by
    intro k_
    induction k_ with
    | zero => intro l5_2 dt5 hI6 hF7 i8 i9 hm; exact absurd hm (Nat.not_lt_zero _)
    | succ k_ ih_loop10 =>
      intro l5_2 dt5 hI6 hF7 i8 i9 hm
      have qA := i9
      refine go_ifq PM261 (k := 2) (p1 := 20) (p2 := 10) (L' := [some (.inr (.inr (some 47))), some (.inl p2), some (.inl l5_2), some (.inl 3)]) (st' := []) (w' := (SH, dt5)) rfl (c_ge (a := l5_2) (b := 3) (by first | exact bnd i8 (by decide) (by decide) | exact ⟨by fail, by fail⟩) ⟨by decide, by decide⟩) (fun c11 => ?_) (fun c11 => ?_)
      · skip
        refine go_retq PM261 (k := 0) (r := none) (w1 := (SH, dt5)) rfl ?_
        exact ⟨dt5, rfl, hI6, hF7, ⟨rfl, by exact ALLV_k qA (by omega) (fun j => rfl)⟩⟩
      · skip
        refine go_toq PM261 (k := 3) (pc' := 13) (L' := [some (.inr (.inr (some 47))), some (.inl p2), some (.inl l5_2), some (.inl 3)]) (st' := [.inl p2, .inl l5_2, .inr (.inr (some 47))]) (w' := (SH, dt5)) rfl ?_
        have hI12 : InvC (u2 dt5 47 (l5_2).toNat p2) := InvC_u2 hI6 (lo := -2147483648) (hi := 2147483647) rfl rfl rfl (by first | exact bnd1 h_p2 (by decide) | fail) (by first | exact bnd2 h_p2 (by decide) | fail)
        have hF13 : Fr [47] dt (u2 dt5 47 (l5_2).toNat p2) := Fr_u2 hF7 (by decide)
        refine go_smpq PM261 (L' := [some (.inr (.inr (some 47))), some (.inl p2), some (.inl l5_2), some (.inl 3)]) (st' := []) (w' := (SH, (u2 dt5 47 (l5_2).toNat p2))) rfl rfl (s_iast (n := 3) rfl (by first | exact bndc i8 c11 (by decide) (by decide) | exact bndx i8 (by decide) (by decide) | exact ⟨by fail, by fail⟩) (by first | exact bnd h_p2 (by decide) (by decide) | exact ⟨by fail, by fail⟩)) ?_
        refine go_toq PM261 (k := 2) (pc' := 5) (L' := [some (.inr (.inr (some 47))), some (.inl p2), some (.inl (l5_2 + 1)), some (.inl 3)]) (st' := []) (w' := (SH, (u2 dt5 47 (l5_2).toNat p2))) rfl ?_
        exact GO.le (ih_loop10 (l5_2 + 1) (u2 dt5 47 (l5_2).toNat p2) hI12 hF13 (by first | with_reducible assumption | omega | exact ALLV_0 (by fail) | exact ALLV_s qA (by fail) (by fail) (fun j hj => by (repeat rw [u2_ne (by fail)])) (by (repeat (first | rw [u2_eq] | rw [u2_ne (by fail)])))) (by first | with_reducible assumption | fail | exact ALLV_0 (by fail) | exact ALLV_s qA (by omega) (by omega) (fun j hj => by (repeat rw [u2_ne (by omega)])) (by (repeat (first | rw [u2_eq] | rw [u2_ne (by fail)])))) (by omega)) ⟨.inl rfl, .inl rfl, .inl rfl, .inl rfl, trivial⟩
  exact GO.le (loop10 _ 0 dt hI hF (by first | with_reducible assumption | omega | exact ALLV_0 (by fail) | exact ALLV_s qA (by fail) (by fail) (fun j hj => by (repeat rw [u2_ne (by fail)])) (by (repeat (first | rw [u2_eq] | rw [u2_ne (by fail)])))) (by first | with_reducible assumption | fail | exact ALLV_0 (by omega) | exact ALLV_s qA (by fail) (by fail) (fun j hj => by (repeat rw [u2_ne (by fail)])) (by (repeat (first | rw [u2_eq] | rw [u2_ne (by fail)])))) (Nat.lt_succ_self _)) ⟨.inl rfl, .inl rfl, .inl rfl, .inl rfl, trivial⟩
theorem sp_J7_fill_53178_w48 (L : Nat) (xs : Nat → Int32) (sio : Option Nat) (d : Nat) (dt : Nat → Nat → Int) (hI : InvC dt)  (p2 : Int) (h_p2 : (-1) ≤ p2 ∧ p2 ≤ 0)  : GO (am_XX L xs sio) (d) 261 0 [some (.inr (.inr (some 48))), some (.inl p2), none, none] [] (SH, dt) (fun r w2 => ∃ dt2 : Nat → Nat → Int, w2 = (SH, dt2) ∧ InvC dt2 ∧ Fr [48] dt dt2 ∧ ((r = none ∧ (ALLV (dt2 48) 3 p2)))) := by
  have hF : Fr [48] dt dt := Fr_refl
  refine go_toq PM261 (k := 5) (pc' := 5) (L' := [some (.inr (.inr (some 48))), some (.inl p2), some (.inl 0), some (.inl 3)]) (st' := []) (w' := (SH, dt)) rfl ?_
  have loop10 : ∀ (k_ : Nat) (l5_2 : Int) (dt5 : Nat → Nat → Int) (hI6 : InvC dt5) (hF7 : Fr [48] dt dt5) (i8 : 0 ≤ l5_2 ∧ l5_2 ≤ 3) (i9 : ALLV (dt5 48) l5_2 p2), (4 - l5_2).toNat < k_ → GO (am_XX L xs sio) (d) 261 5 [some (.inr (.inr (some 48))), some (.inl p2), some (.inl l5_2), some (.inl 3)] [] (SH, dt5) (fun r w2 => ∃ dt2 : Nat → Nat → Int, w2 = (SH, dt2) ∧ InvC dt2 ∧ Fr [48] dt dt2 ∧ ((r = none ∧ (ALLV (dt2 48) 3 p2)))) := by
    intro k_
    induction k_ with
    | zero => intro l5_2 dt5 hI6 hF7 i8 i9 hm; exact absurd hm (Nat.not_lt_zero _)
    | succ k_ ih_loop10 =>
      intro l5_2 dt5 hI6 hF7 i8 i9 hm
      have qA := i9
      refine go_ifq PM261 (k := 2) (p1 := 20) (p2 := 10) (L' := [some (.inr (.inr (some 48))), some (.inl p2), some (.inl l5_2), some (.inl 3)]) (st' := []) (w' := (SH, dt5)) rfl (c_ge (a := l5_2) (b := 3) (by first | exact bnd i8 (by decide) (by decide) | exact ⟨by fail, by fail⟩) ⟨by decide, by decide⟩) (fun c11 => ?_) (fun c11 => ?_)
      · skip
        refine go_retq PM261 (k := 0) (r := none) (w1 := (SH, dt5)) rfl ?_
        exact ⟨dt5, rfl, hI6, hF7, ⟨rfl, by exact ALLV_k qA (by omega) (fun j => rfl)⟩⟩
      · skip
        refine go_toq PM261 (k := 3) (pc' := 13) (L' := [some (.inr (.inr (some 48))), some (.inl p2), some (.inl l5_2), some (.inl 3)]) (st' := [.inl p2, .inl l5_2, .inr (.inr (some 48))]) (w' := (SH, dt5)) rfl ?_
        have hI12 : InvC (u2 dt5 48 (l5_2).toNat p2) := InvC_u2 hI6 (lo := -2147483648) (hi := 2147483647) rfl rfl rfl (by first | exact bnd1 h_p2 (by decide) | fail) (by first | exact bnd2 h_p2 (by decide) | fail)
        have hF13 : Fr [48] dt (u2 dt5 48 (l5_2).toNat p2) := Fr_u2 hF7 (by decide)
        refine go_smpq PM261 (L' := [some (.inr (.inr (some 48))), some (.inl p2), some (.inl l5_2), some (.inl 3)]) (st' := []) (w' := (SH, (u2 dt5 48 (l5_2).toNat p2))) rfl rfl (s_iast (n := 3) rfl (by first | exact bndc i8 c11 (by decide) (by decide) | exact bndx i8 (by decide) (by decide) | exact ⟨by fail, by fail⟩) (by first | exact bnd h_p2 (by decide) (by decide) | exact ⟨by fail, by fail⟩)) ?_
        refine go_toq PM261 (k := 2) (pc' := 5) (L' := [some (.inr (.inr (some 48))), some (.inl p2), some (.inl (l5_2 + 1)), some (.inl 3)]) (st' := []) (w' := (SH, (u2 dt5 48 (l5_2).toNat p2))) rfl ?_
        exact GO.le (ih_loop10 (l5_2 + 1) (u2 dt5 48 (l5_2).toNat p2) hI12 hF13 (by first | with_reducible assumption | omega | exact ALLV_0 (by fail) | exact ALLV_s qA (by fail) (by fail) (fun j hj => by (repeat rw [u2_ne (by fail)])) (by (repeat (first | rw [u2_eq] | rw [u2_ne (by fail)])))) (by first | with_reducible assumption | fail | exact ALLV_0 (by fail) | exact ALLV_s qA (by omega) (by omega) (fun j hj => by (repeat rw [u2_ne (by omega)])) (by (repeat (first | rw [u2_eq] | rw [u2_ne (by fail)])))) (by omega)) ⟨.inl rfl, .inl rfl, .inl rfl, .inl rfl, trivial⟩
  exact GO.le (loop10 _ 0 dt hI hF (by first | with_reducible assumption | omega | exact ALLV_0 (by fail) | exact ALLV_s qA (by fail) (by fail) (fun j hj => by (repeat rw [u2_ne (by fail)])) (by (repeat (first | rw [u2_eq] | rw [u2_ne (by fail)])))) (by first | with_reducible assumption | fail | exact ALLV_0 (by omega) | exact ALLV_s qA (by fail) (by fail) (fun j hj => by (repeat rw [u2_ne (by fail)])) (by (repeat (first | rw [u2_eq] | rw [u2_ne (by fail)])))) (Nat.lt_succ_self _)) ⟨.inl rfl, .inl rfl, .inl rfl, .inl rfl, trivial⟩
theorem sp_J7_fill_53178_w49 (L : Nat) (xs : Nat → Int32) (sio : Option Nat) (d : Nat) (dt : Nat → Nat → Int) (hI : InvC dt)  (p2 : Int) (h_p2 : (-1) ≤ p2 ∧ p2 ≤ 0)  : GO (am_XX L xs sio) (d) 261 0 [some (.inr (.inr (some 49))), some (.inl p2), none, none] [] (SH, dt) (fun r w2 => ∃ dt2 : Nat → Nat → Int, w2 = (SH, dt2) ∧ InvC dt2 ∧ Fr [49] dt dt2 ∧ ((r = none ∧ (ALLV (dt2 49) 3 p2)))) := by
  have hF : Fr [49] dt dt := Fr_refl
  refine go_toq PM261 (k := 5) (pc' := 5) (L' := [some (.inr (.inr (some 49))), some (.inl p2), some (.inl 0), some (.inl 3)]) (st' := []) (w' := (SH, dt)) rfl ?_
  have loop10 : ∀ (k_ : Nat) (l5_2 : Int) (dt5 : Nat → Nat → Int) (hI6 : InvC dt5) (hF7 : Fr [49] dt dt5) (i8 : 0 ≤ l5_2 ∧ l5_2 ≤ 3) (i9 : ALLV (dt5 49) l5_2 p2), (4 - l5_2).toNat < k_ → GO (am_XX L xs sio) (d) 261 5 [some (.inr (.inr (some 49))), some (.inl p2), some (.inl l5_2), some (.inl 3)] [] (SH, dt5) (fun r w2 => ∃ dt2 : Nat → Nat → Int, w2 = (SH, dt2) ∧ InvC dt2 ∧ Fr [49] dt dt2 ∧ ((r = none ∧ (ALLV (dt2 49) 3 p2)))) := by
    intro k_
    induction k_ with
    | zero => intro l5_2 dt5 hI6 hF7 i8 i9 hm; exact absurd hm (Nat.not_lt_zero _)
    | succ k_ ih_loop10 =>
      intro l5_2 dt5 hI6 hF7 i8 i9 hm
      have qA := i9
      refine go_ifq PM261 (k := 2) (p1 := 20) (p2 := 10) (L' := [some (.inr (.inr (some 49))), some (.inl p2), some (.inl l5_2), some (.inl 3)]) (st' := []) (w' := (SH, dt5)) rfl (c_ge (a := l5_2) (b := 3) (by first | exact bnd i8 (by decide) (by decide) | exact ⟨by fail, by fail⟩) ⟨by decide, by decide⟩) (fun c11 => ?_) (fun c11 => ?_)
      · skip
        refine go_retq PM261 (k := 0) (r := none) (w1 := (SH, dt5)) rfl ?_
        exact ⟨dt5, rfl, hI6, hF7, ⟨rfl, by exact ALLV_k qA (by omega) (fun j => rfl)⟩⟩
      · skip
        refine go_toq PM261 (k := 3) (pc' := 13) (L' := [some (.inr (.inr (some 49))), some (.inl p2), some (.inl l5_2), some (.inl 3)]) (st' := [.inl p2, .inl l5_2, .inr (.inr (some 49))]) (w' := (SH, dt5)) rfl ?_
        have hI12 : InvC (u2 dt5 49 (l5_2).toNat p2) := InvC_u2 hI6 (lo := -2147483648) (hi := 2147483647) rfl rfl rfl (by first | exact bnd1 h_p2 (by decide) | fail) (by first | exact bnd2 h_p2 (by decide) | fail)
        have hF13 : Fr [49] dt (u2 dt5 49 (l5_2).toNat p2) := Fr_u2 hF7 (by decide)
        refine go_smpq PM261 (L' := [some (.inr (.inr (some 49))), some (.inl p2), some (.inl l5_2), some (.inl 3)]) (st' := []) (w' := (SH, (u2 dt5 49 (l5_2).toNat p2))) rfl rfl (s_iast (n := 3) rfl (by first | exact bndc i8 c11 (by decide) (by decide) | exact bndx i8 (by decide) (by decide) | exact ⟨by fail, by fail⟩) (by first | exact bnd h_p2 (by decide) (by decide) | exact ⟨by fail, by fail⟩)) ?_
        refine go_toq PM261 (k := 2) (pc' := 5) (L' := [some (.inr (.inr (some 49))), some (.inl p2), some (.inl (l5_2 + 1)), some (.inl 3)]) (st' := []) (w' := (SH, (u2 dt5 49 (l5_2).toNat p2))) rfl ?_
        exact GO.le (ih_loop10 (l5_2 + 1) (u2 dt5 49 (l5_2).toNat p2) hI12 hF13 (by first | with_reducible assumption | omega | exact ALLV_0 (by fail) | exact ALLV_s qA (by fail) (by fail) (fun j hj => by (repeat rw [u2_ne (by fail)])) (by (repeat (first | rw [u2_eq] | rw [u2_ne (by fail)])))) (by first | with_reducible assumption | fail | exact ALLV_0 (by fail) | exact ALLV_s qA (by omega) (by omega) (fun j hj => by (repeat rw [u2_ne (by omega)])) (by (repeat (first | rw [u2_eq] | rw [u2_ne (by fail)])))) (by omega)) ⟨.inl rfl, .inl rfl, .inl rfl, .inl rfl, trivial⟩
  exact GO.le (loop10 _ 0 dt hI hF (by first | with_reducible assumption | omega | exact ALLV_0 (by fail) | exact ALLV_s qA (by fail) (by fail) (fun j hj => by (repeat rw [u2_ne (by fail)])) (by (repeat (first | rw [u2_eq] | rw [u2_ne (by fail)])))) (by first | with_reducible assumption | fail | exact ALLV_0 (by omega) | exact ALLV_s qA (by fail) (by fail) (fun j hj => by (repeat rw [u2_ne (by fail)])) (by (repeat (first | rw [u2_eq] | rw [u2_ne (by fail)])))) (Nat.lt_succ_self _)) ⟨.inl rfl, .inl rfl, .inl rfl, .inl rfl, trivial⟩
theorem sp_J7_fill_53178_w50 (L : Nat) (xs : Nat → Int32) (sio : Option Nat) (d : Nat) (dt : Nat → Nat → Int) (hI : InvC dt)  (p2 : Int) (h_p2 : (-1) ≤ p2 ∧ p2 ≤ 0)  : GO (am_XX L xs sio) (d) 261 0 [some (.inr (.inr (some 50))), some (.inl p2), none, none] [] (SH, dt) (fun r w2 => ∃ dt2 : Nat → Nat → Int, w2 = (SH, dt2) ∧ InvC dt2 ∧ Fr [50] dt dt2 ∧ ((r = none ∧ (ALLV (dt2 50) 3 p2)))) := by
  have hF : Fr [50] dt dt := Fr_refl
  refine go_toq PM261 (k := 5) (pc' := 5) (L' := [some (.inr (.inr (some 50))), some (.inl p2), some (.inl 0), some (.inl 3)]) (st' := []) (w' := (SH, dt)) rfl ?_
  have loop10 : ∀ (k_ : Nat) (l5_2 : Int) (dt5 : Nat → Nat → Int) (hI6 : InvC dt5) (hF7 : Fr [50] dt dt5) (i8 : 0 ≤ l5_2 ∧ l5_2 ≤ 3) (i9 : ALLV (dt5 50) l5_2 p2), (4 - l5_2).toNat < k_ → GO (am_XX L xs sio) (d) 261 5 [some (.inr (.inr (some 50))), some (.inl p2), some (.inl l5_2), some (.inl 3)] [] (SH, dt5) (fun r w2 => ∃ dt2 : Nat → Nat → Int, w2 = (SH, dt2) ∧ InvC dt2 ∧ Fr [50] dt dt2 ∧ ((r = none ∧ (ALLV (dt2 50) 3 p2)))) := by
    intro k_
    induction k_ with
    | zero => intro l5_2 dt5 hI6 hF7 i8 i9 hm; exact absurd hm (Nat.not_lt_zero _)
    | succ k_ ih_loop10 =>
      intro l5_2 dt5 hI6 hF7 i8 i9 hm
      have qA := i9
      refine go_ifq PM261 (k := 2) (p1 := 20) (p2 := 10) (L' := [some (.inr (.inr (some 50))), some (.inl p2), some (.inl l5_2), some (.inl 3)]) (st' := []) (w' := (SH, dt5)) rfl (c_ge (a := l5_2) (b := 3) (by first | exact bnd i8 (by decide) (by decide) | exact ⟨by fail, by fail⟩) ⟨by decide, by decide⟩) (fun c11 => ?_) (fun c11 => ?_)
      · skip
        refine go_retq PM261 (k := 0) (r := none) (w1 := (SH, dt5)) rfl ?_
        exact ⟨dt5, rfl, hI6, hF7, ⟨rfl, by exact ALLV_k qA (by omega) (fun j => rfl)⟩⟩
      · skip
        refine go_toq PM261 (k := 3) (pc' := 13) (L' := [some (.inr (.inr (some 50))), some (.inl p2), some (.inl l5_2), some (.inl 3)]) (st' := [.inl p2, .inl l5_2, .inr (.inr (some 50))]) (w' := (SH, dt5)) rfl ?_
        have hI12 : InvC (u2 dt5 50 (l5_2).toNat p2) := InvC_u2 hI6 (lo := -2147483648) (hi := 2147483647) rfl rfl rfl (by first | exact bnd1 h_p2 (by decide) | fail) (by first | exact bnd2 h_p2 (by decide) | fail)
        have hF13 : Fr [50] dt (u2 dt5 50 (l5_2).toNat p2) := Fr_u2 hF7 (by decide)
        refine go_smpq PM261 (L' := [some (.inr (.inr (some 50))), some (.inl p2), some (.inl l5_2), some (.inl 3)]) (st' := []) (w' := (SH, (u2 dt5 50 (l5_2).toNat p2))) rfl rfl (s_iast (n := 3) rfl (by first | exact bndc i8 c11 (by decide) (by decide) | exact bndx i8 (by decide) (by decide) | exact ⟨by fail, by fail⟩) (by first | exact bnd h_p2 (by decide) (by decide) | exact ⟨by fail, by fail⟩)) ?_
        refine go_toq PM261 (k := 2) (pc' := 5) (L' := [some (.inr (.inr (some 50))), some (.inl p2), some (.inl (l5_2 + 1)), some (.inl 3)]) (st' := []) (w' := (SH, (u2 dt5 50 (l5_2).toNat p2))) rfl ?_
        exact GO.le (ih_loop10 (l5_2 + 1) (u2 dt5 50 (l5_2).toNat p2) hI12 hF13 (by first | with_reducible assumption | omega | exact ALLV_0 (by fail) | exact ALLV_s qA (by fail) (by fail) (fun j hj => by (repeat rw [u2_ne (by fail)])) (by (repeat (first | rw [u2_eq] | rw [u2_ne (by fail)])))) (by first | with_reducible assumption | fail | exact ALLV_0 (by fail) | exact ALLV_s qA (by omega) (by omega) (fun j hj => by (repeat rw [u2_ne (by omega)])) (by (repeat (first | rw [u2_eq] | rw [u2_ne (by fail)])))) (by omega)) ⟨.inl rfl, .inl rfl, .inl rfl, .inl rfl, trivial⟩
  exact GO.le (loop10 _ 0 dt hI hF (by first | with_reducible assumption | omega | exact ALLV_0 (by fail) | exact ALLV_s qA (by fail) (by fail) (fun j hj => by (repeat rw [u2_ne (by fail)])) (by (repeat (first | rw [u2_eq] | rw [u2_ne (by fail)])))) (by first | with_reducible assumption | fail | exact ALLV_0 (by omega) | exact ALLV_s qA (by fail) (by fail) (fun j hj => by (repeat rw [u2_ne (by fail)])) (by (repeat (first | rw [u2_eq] | rw [u2_ne (by fail)])))) (Nat.lt_succ_self _)) ⟨.inl rfl, .inl rfl, .inl rfl, .inl rfl, trivial⟩
theorem sp_J7_fill_53178_w51 (L : Nat) (xs : Nat → Int32) (sio : Option Nat) (d : Nat) (dt : Nat → Nat → Int) (hI : InvC dt)  (p2 : Int) (h_p2 : (-1) ≤ p2 ∧ p2 ≤ 0)  : GO (am_XX L xs sio) (d) 261 0 [some (.inr (.inr (some 51))), some (.inl p2), none, none] [] (SH, dt) (fun r w2 => ∃ dt2 : Nat → Nat → Int, w2 = (SH, dt2) ∧ InvC dt2 ∧ Fr [51] dt dt2 ∧ ((r = none ∧ (ALLV (dt2 51) 6 p2)))) := by
  have hF : Fr [51] dt dt := Fr_refl
  refine go_toq PM261 (k := 5) (pc' := 5) (L' := [some (.inr (.inr (some 51))), some (.inl p2), some (.inl 0), some (.inl 6)]) (st' := []) (w' := (SH, dt)) rfl ?_
  have loop10 : ∀ (k_ : Nat) (l5_2 : Int) (dt5 : Nat → Nat → Int) (hI6 : InvC dt5) (hF7 : Fr [51] dt dt5) (i8 : 0 ≤ l5_2 ∧ l5_2 ≤ 6) (i9 : ALLV (dt5 51) l5_2 p2), (7 - l5_2).toNat < k_ → GO (am_XX L xs sio) (d) 261 5 [some (.inr (.inr (some 51))), some (.inl p2), some (.inl l5_2), some (.inl 6)] [] (SH, dt5) (fun r w2 => ∃ dt2 : Nat → Nat → Int, w2 = (SH, dt2) ∧ InvC dt2 ∧ Fr [51] dt dt2 ∧ ((r = none ∧ (ALLV (dt2 51) 6 p2)))) := by
    intro k_
    induction k_ with
    | zero => intro l5_2 dt5 hI6 hF7 i8 i9 hm; exact absurd hm (Nat.not_lt_zero _)
    | succ k_ ih_loop10 =>
      intro l5_2 dt5 hI6 hF7 i8 i9 hm
      have qA := i9
      refine go_ifq PM261 (k := 2) (p1 := 20) (p2 := 10) (L' := [some (.inr (.inr (some 51))), some (.inl p2), some (.inl l5_2), some (.inl 6)]) (st' := []) (w' := (SH, dt5)) rfl (c_ge (a := l5_2) (b := 6) (by first | exact bnd i8 (by decide) (by decide) | exact ⟨by fail, by fail⟩) ⟨by decide, by decide⟩) (fun c11 => ?_) (fun c11 => ?_)
      · skip
        refine go_retq PM261 (k := 0) (r := none) (w1 := (SH, dt5)) rfl ?_
        exact ⟨dt5, rfl, hI6, hF7, ⟨rfl, by exact ALLV_k qA (by omega) (fun j => rfl)⟩⟩
      · skip
        refine go_toq PM261 (k := 3) (pc' := 13) (L' := [some (.inr (.inr (some 51))), some (.inl p2), some (.inl l5_2), some (.inl 6)]) (st' := [.inl p2, .inl l5_2, .inr (.inr (some 51))]) (w' := (SH, dt5)) rfl ?_
        have hI12 : InvC (u2 dt5 51 (l5_2).toNat p2) := InvC_u2 hI6 (lo := -2147483648) (hi := 2147483647) rfl rfl rfl (by first | exact bnd1 h_p2 (by decide) | fail) (by first | exact bnd2 h_p2 (by decide) | fail)
        have hF13 : Fr [51] dt (u2 dt5 51 (l5_2).toNat p2) := Fr_u2 hF7 (by decide)
        refine go_smpq PM261 (L' := [some (.inr (.inr (some 51))), some (.inl p2), some (.inl l5_2), some (.inl 6)]) (st' := []) (w' := (SH, (u2 dt5 51 (l5_2).toNat p2))) rfl rfl (s_iast (n := 6) rfl (by first | exact bndc i8 c11 (by decide) (by decide) | exact bndx i8 (by decide) (by decide) | exact ⟨by fail, by fail⟩) (by first | exact bnd h_p2 (by decide) (by decide) | exact ⟨by fail, by fail⟩)) ?_
        refine go_toq PM261 (k := 2) (pc' := 5) (L' := [some (.inr (.inr (some 51))), some (.inl p2), some (.inl (l5_2 + 1)), some (.inl 6)]) (st' := []) (w' := (SH, (u2 dt5 51 (l5_2).toNat p2))) rfl ?_
        exact GO.le (ih_loop10 (l5_2 + 1) (u2 dt5 51 (l5_2).toNat p2) hI12 hF13 (by first | with_reducible assumption | omega | exact ALLV_0 (by fail) | exact ALLV_s qA (by fail) (by fail) (fun j hj => by (repeat rw [u2_ne (by fail)])) (by (repeat (first | rw [u2_eq] | rw [u2_ne (by fail)])))) (by first | with_reducible assumption | fail | exact ALLV_0 (by fail) | exact ALLV_s qA (by omega) (by omega) (fun j hj => by (repeat rw [u2_ne (by omega)])) (by (repeat (first | rw [u2_eq] | rw [u2_ne (by fail)])))) (by omega)) ⟨.inl rfl, .inl rfl, .inl rfl, .inl rfl, trivial⟩
  exact GO.le (loop10 _ 0 dt hI hF (by first | with_reducible assumption | omega | exact ALLV_0 (by fail) | exact ALLV_s qA (by fail) (by fail) (fun j hj => by (repeat rw [u2_ne (by fail)])) (by (repeat (first | rw [u2_eq] | rw [u2_ne (by fail)])))) (by first | with_reducible assumption | fail | exact ALLV_0 (by omega) | exact ALLV_s qA (by fail) (by fail) (fun j hj => by (repeat rw [u2_ne (by fail)])) (by (repeat (first | rw [u2_eq] | rw [u2_ne (by fail)])))) (Nat.lt_succ_self _)) ⟨.inl rfl, .inl rfl, .inl rfl, .inl rfl, trivial⟩
theorem sp_J7_fill_53178_w52 (L : Nat) (xs : Nat → Int32) (sio : Option Nat) (d : Nat) (dt : Nat → Nat → Int) (hI : InvC dt)  (p2 : Int) (h_p2 : (-1) ≤ p2 ∧ p2 ≤ 0)  : GO (am_XX L xs sio) (d) 261 0 [some (.inr (.inr (some 52))), some (.inl p2), none, none] [] (SH, dt) (fun r w2 => ∃ dt2 : Nat → Nat → Int, w2 = (SH, dt2) ∧ InvC dt2 ∧ Fr [52] dt dt2 ∧ ((r = none ∧ (ALLV (dt2 52) 12 p2)))) := by
  have hF : Fr [52] dt dt := Fr_refl
  refine go_toq PM261 (k := 5) (pc' := 5) (L' := [some (.inr (.inr (some 52))), some (.inl p2), some (.inl 0), some (.inl 12)]) (st' := []) (w' := (SH, dt)) rfl ?_
  have loop10 : ∀ (k_ : Nat) (l5_2 : Int) (dt5 : Nat → Nat → Int) (hI6 : InvC dt5) (hF7 : Fr [52] dt dt5) (i8 : 0 ≤ l5_2 ∧ l5_2 ≤ 12) (i9 : ALLV (dt5 52) l5_2 p2), (13 - l5_2).toNat < k_ → GO (am_XX L xs sio) (d) 261 5 [some (.inr (.inr (some 52))), some (.inl p2), some (.inl l5_2), some (.inl 12)] [] (SH, dt5) (fun r w2 => ∃ dt2 : Nat → Nat → Int, w2 = (SH, dt2) ∧ InvC dt2 ∧ Fr [52] dt dt2 ∧ ((r = none ∧ (ALLV (dt2 52) 12 p2)))) := by
    intro k_
    induction k_ with
    | zero => intro l5_2 dt5 hI6 hF7 i8 i9 hm; exact absurd hm (Nat.not_lt_zero _)
    | succ k_ ih_loop10 =>
      intro l5_2 dt5 hI6 hF7 i8 i9 hm
      have qA := i9
      refine go_ifq PM261 (k := 2) (p1 := 20) (p2 := 10) (L' := [some (.inr (.inr (some 52))), some (.inl p2), some (.inl l5_2), some (.inl 12)]) (st' := []) (w' := (SH, dt5)) rfl (c_ge (a := l5_2) (b := 12) (by first | exact bnd i8 (by decide) (by decide) | exact ⟨by fail, by fail⟩) ⟨by decide, by decide⟩) (fun c11 => ?_) (fun c11 => ?_)
      · skip
        refine go_retq PM261 (k := 0) (r := none) (w1 := (SH, dt5)) rfl ?_
        exact ⟨dt5, rfl, hI6, hF7, ⟨rfl, by exact ALLV_k qA (by omega) (fun j => rfl)⟩⟩
      · skip
        refine go_toq PM261 (k := 3) (pc' := 13) (L' := [some (.inr (.inr (some 52))), some (.inl p2), some (.inl l5_2), some (.inl 12)]) (st' := [.inl p2, .inl l5_2, .inr (.inr (some 52))]) (w' := (SH, dt5)) rfl ?_
        have hI12 : InvC (u2 dt5 52 (l5_2).toNat p2) := InvC_u2 hI6 (lo := -2147483648) (hi := 2147483647) rfl rfl rfl (by first | exact bnd1 h_p2 (by decide) | fail) (by first | exact bnd2 h_p2 (by decide) | fail)
        have hF13 : Fr [52] dt (u2 dt5 52 (l5_2).toNat p2) := Fr_u2 hF7 (by decide)
        refine go_smpq PM261 (L' := [some (.inr (.inr (some 52))), some (.inl p2), some (.inl l5_2), some (.inl 12)]) (st' := []) (w' := (SH, (u2 dt5 52 (l5_2).toNat p2))) rfl rfl (s_iast (n := 12) rfl (by first | exact bndc i8 c11 (by decide) (by decide) | exact bndx i8 (by decide) (by decide) | exact ⟨by fail, by fail⟩) (by first | exact bnd h_p2 (by decide) (by decide) | exact ⟨by fail, by fail⟩)) ?_
        refine go_toq PM261 (k := 2) (pc' := 5) (L' := [some (.inr (.inr (some 52))), some (.inl p2), some (.inl (l5_2 + 1)), some (.inl 12)]) (st' := []) (w' := (SH, (u2 dt5 52 (l5_2).toNat p2))) rfl ?_
        exact GO.le (ih_loop10 (l5_2 + 1) (u2 dt5 52 (l5_2).toNat p2) hI12 hF13 (by first | with_reducible assumption | omega | exact ALLV_0 (by fail) | exact ALLV_s qA (by fail) (by fail) (fun j hj => by (repeat rw [u2_ne (by fail)])) (by (repeat (first | rw [u2_eq] | rw [u2_ne (by fail)])))) (by first | with_reducible assumption | fail | exact ALLV_0 (by fail) | exact ALLV_s qA (by omega) (by omega) (fun j hj => by (repeat rw [u2_ne (by omega)])) (by (repeat (first | rw [u2_eq] | rw [u2_ne (by fail)])))) (by omega)) ⟨.inl rfl, .inl rfl, .inl rfl, .inl rfl, trivial⟩
  exact GO.le (loop10 _ 0 dt hI hF (by first | with_reducible assumption | omega | exact ALLV_0 (by fail) | exact ALLV_s qA (by fail) (by fail) (fun j hj => by (repeat rw [u2_ne (by fail)])) (by (repeat (first | rw [u2_eq] | rw [u2_ne (by fail)])))) (by first | with_reducible assumption | fail | exact ALLV_0 (by omega) | exact ALLV_s qA (by fail) (by fail) (fun j hj => by (repeat rw [u2_ne (by fail)])) (by (repeat (first | rw [u2_eq] | rw [u2_ne (by fail)])))) (Nat.lt_succ_self _)) ⟨.inl rfl, .inl rfl, .inl rfl, .inl rfl, trivial⟩
theorem sp_J7_fill_53178_w53 (L : Nat) (xs : Nat → Int32) (sio : Option Nat) (d : Nat) (dt : Nat → Nat → Int) (hI : InvC dt)  (p2 : Int) (h_p2 : (-1) ≤ p2 ∧ p2 ≤ 0)  : GO (am_XX L xs sio) (d) 261 0 [some (.inr (.inr (some 53))), some (.inl p2), none, none] [] (SH, dt) (fun r w2 => ∃ dt2 : Nat → Nat → Int, w2 = (SH, dt2) ∧ InvC dt2 ∧ Fr [53] dt dt2 ∧ ((r = none ∧ (ALLV (dt2 53) 12 p2)))) := by
  have hF : Fr [53] dt dt := Fr_refl
  refine go_toq PM261 (k := 5) (pc' := 5) (L' := [some (.inr (.inr (some 53))), some (.inl p2), some (.inl 0), some (.inl 12)]) (st' := []) (w' := (SH, dt)) rfl ?_
  have loop10 : ∀ (k_ : Nat) (l5_2 : Int) (dt5 : Nat → Nat → Int) (hI6 : InvC dt5) (hF7 : Fr [53] dt dt5) (i8 : 0 ≤ l5_2 ∧ l5_2 ≤ 12) (i9 : ALLV (dt5 53) l5_2 p2), (13 - l5_2).toNat < k_ → GO (am_XX L xs sio) (d) 261 5 [some (.inr (.inr (some 53))), some (.inl p2), some (.inl l5_2), some (.inl 12)] [] (SH, dt5) (fun r w2 => ∃ dt2 : Nat → Nat → Int, w2 = (SH, dt2) ∧ InvC dt2 ∧ Fr [53] dt dt2 ∧ ((r = none ∧ (ALLV (dt2 53) 12 p2)))) := by
    intro k_
    induction k_ with
    | zero => intro l5_2 dt5 hI6 hF7 i8 i9 hm; exact absurd hm (Nat.not_lt_zero _)
    | succ k_ ih_loop10 =>
      intro l5_2 dt5 hI6 hF7 i8 i9 hm
      have qA := i9
      refine go_ifq PM261 (k := 2) (p1 := 20) (p2 := 10) (L' := [some (.inr (.inr (some 53))), some (.inl p2), some (.inl l5_2), some (.inl 12)]) (st' := []) (w' := (SH, dt5)) rfl (c_ge (a := l5_2) (b := 12) (by first | exact bnd i8 (by decide) (by decide) | exact ⟨by fail, by fail⟩) ⟨by decide, by decide⟩) (fun c11 => ?_) (fun c11 => ?_)
      · skip
        refine go_retq PM261 (k := 0) (r := none) (w1 := (SH, dt5)) rfl ?_
        exact ⟨dt5, rfl, hI6, hF7, ⟨rfl, by exact ALLV_k qA (by omega) (fun j => rfl)⟩⟩
      · skip
        refine go_toq PM261 (k := 3) (pc' := 13) (L' := [some (.inr (.inr (some 53))), some (.inl p2), some (.inl l5_2), some (.inl 12)]) (st' := [.inl p2, .inl l5_2, .inr (.inr (some 53))]) (w' := (SH, dt5)) rfl ?_
        have hI12 : InvC (u2 dt5 53 (l5_2).toNat p2) := InvC_u2 hI6 (lo := -2147483648) (hi := 2147483647) rfl rfl rfl (by first | exact bnd1 h_p2 (by decide) | fail) (by first | exact bnd2 h_p2 (by decide) | fail)
        have hF13 : Fr [53] dt (u2 dt5 53 (l5_2).toNat p2) := Fr_u2 hF7 (by decide)
        refine go_smpq PM261 (L' := [some (.inr (.inr (some 53))), some (.inl p2), some (.inl l5_2), some (.inl 12)]) (st' := []) (w' := (SH, (u2 dt5 53 (l5_2).toNat p2))) rfl rfl (s_iast (n := 12) rfl (by first | exact bndc i8 c11 (by decide) (by decide) | exact bndx i8 (by decide) (by decide) | exact ⟨by fail, by fail⟩) (by first | exact bnd h_p2 (by decide) (by decide) | exact ⟨by fail, by fail⟩)) ?_
        refine go_toq PM261 (k := 2) (pc' := 5) (L' := [some (.inr (.inr (some 53))), some (.inl p2), some (.inl (l5_2 + 1)), some (.inl 12)]) (st' := []) (w' := (SH, (u2 dt5 53 (l5_2).toNat p2))) rfl ?_
        exact GO.le (ih_loop10 (l5_2 + 1) (u2 dt5 53 (l5_2).toNat p2) hI12 hF13 (by first | with_reducible assumption | omega | exact ALLV_0 (by fail) | exact ALLV_s qA (by fail) (by fail) (fun j hj => by (repeat rw [u2_ne (by fail)])) (by (repeat (first | rw [u2_eq] | rw [u2_ne (by fail)])))) (by first | with_reducible assumption | fail | exact ALLV_0 (by fail) | exact ALLV_s qA (by omega) (by omega) (fun j hj => by (repeat rw [u2_ne (by omega)])) (by (repeat (first | rw [u2_eq] | rw [u2_ne (by fail)])))) (by omega)) ⟨.inl rfl, .inl rfl, .inl rfl, .inl rfl, trivial⟩
  exact GO.le (loop10 _ 0 dt hI hF (by first | with_reducible assumption | omega | exact ALLV_0 (by fail) | exact ALLV_s qA (by fail) (by fail) (fun j hj => by (repeat rw [u2_ne (by fail)])) (by (repeat (first | rw [u2_eq] | rw [u2_ne (by fail)])))) (by first | with_reducible assumption | fail | exact ALLV_0 (by omega) | exact ALLV_s qA (by fail) (by fail) (fun j hj => by (repeat rw [u2_ne (by fail)])) (by (repeat (first | rw [u2_eq] | rw [u2_ne (by fail)])))) (Nat.lt_succ_self _)) ⟨.inl rfl, .inl rfl, .inl rfl, .inl rfl, trivial⟩
theorem sp_J7_fill_53178_w54 (L : Nat) (xs : Nat → Int32) (sio : Option Nat) (d : Nat) (dt : Nat → Nat → Int) (hI : InvC dt)  (p2 : Int) (h_p2 : (-1) ≤ p2 ∧ p2 ≤ 0)  : GO (am_XX L xs sio) (d) 261 0 [some (.inr (.inr (some 54))), some (.inl p2), none, none] [] (SH, dt) (fun r w2 => ∃ dt2 : Nat → Nat → Int, w2 = (SH, dt2) ∧ InvC dt2 ∧ Fr [54] dt dt2 ∧ ((r = none ∧ (ALLV (dt2 54) 12 p2)))) := by
  have hF : Fr [54] dt dt := Fr_refl
  refine go_toq PM261 (k := 5) (pc' := 5) (L' := [some (.inr (.inr (some 54))), some (.inl p2), some (.inl 0), some (.inl 12)]) (st' := []) (w' := (SH, dt)) rfl ?_
  have loop10 : ∀ (k_ : Nat) (l5_2 : Int) (dt5 : Nat → Nat → Int) (hI6 : InvC dt5) (hF7 : Fr [54] dt dt5) (i8 : 0 ≤ l5_2 ∧ l5_2 ≤ 12) (i9 : ALLV (dt5 54) l5_2 p2), (13 - l5_2).toNat < k_ → GO (am_XX L xs sio) (d) 261 5 [some (.inr (.inr (some 54))), some (.inl p2), some (.inl l5_2), some (.inl 12)] [] (SH, dt5) (fun r w2 => ∃ dt2 : Nat → Nat → Int, w2 = (SH, dt2) ∧ InvC dt2 ∧ Fr [54] dt dt2 ∧ ((r = none ∧ (ALLV (dt2 54) 12 p2)))) := by
    intro k_
    induction k_ with
    | zero => intro l5_2 dt5 hI6 hF7 i8 i9 hm; exact absurd hm (Nat.not_lt_zero _)
    | succ k_ ih_loop10 =>
      intro l5_2 dt5 hI6 hF7 i8 i9 hm
      have qA := i9
      refine go_ifq PM261 (k := 2) (p1 := 20) (p2 := 10) (L' := [some (.inr (.inr (some 54))), some (.inl p2), some (.inl l5_2), some (.inl 12)]) (st' := []) (w' := (SH, dt5)) rfl (c_ge (a := l5_2) (b := 12) (by first | exact bnd i8 (by decide) (by decide) | exact ⟨by fail, by fail⟩) ⟨by decide, by decide⟩) (fun c11 => ?_) (fun c11 => ?_)
      · skip
        refine go_retq PM261 (k := 0) (r := none) (w1 := (SH, dt5)) rfl ?_
        exact ⟨dt5, rfl, hI6, hF7, ⟨rfl, by exact ALLV_k qA (by omega) (fun j => rfl)⟩⟩
      · skip
        refine go_toq PM261 (k := 3) (pc' := 13) (L' := [some (.inr (.inr (some 54))), some (.inl p2), some (.inl l5_2), some (.inl 12)]) (st' := [.inl p2, .inl l5_2, .inr (.inr (some 54))]) (w' := (SH, dt5)) rfl ?_
        have hI12 : InvC (u2 dt5 54 (l5_2).toNat p2) := InvC_u2 hI6 (lo := -2147483648) (hi := 2147483647) rfl rfl rfl (by first | exact bnd1 h_p2 (by decide) | fail) (by first | exact bnd2 h_p2 (by decide) | fail)
        have hF13 : Fr [54] dt (u2 dt5 54 (l5_2).toNat p2) := Fr_u2 hF7 (by decide)
        refine go_smpq PM261 (L' := [some (.inr (.inr (some 54))), some (.inl p2), some (.inl l5_2), some (.inl 12)]) (st' := []) (w' := (SH, (u2 dt5 54 (l5_2).toNat p2))) rfl rfl (s_iast (n := 12) rfl (by first | exact bndc i8 c11 (by decide) (by decide) | exact bndx i8 (by decide) (by decide) | exact ⟨by fail, by fail⟩) (by first | exact bnd h_p2 (by decide) (by decide) | exact ⟨by fail, by fail⟩)) ?_
        refine go_toq PM261 (k := 2) (pc' := 5) (L' := [some (.inr (.inr (some 54))), some (.inl p2), some (.inl (l5_2 + 1)), some (.inl 12)]) (st' := []) (w' := (SH, (u2 dt5 54 (l5_2).toNat p2))) rfl ?_
        exact GO.le (ih_loop10 (l5_2 + 1) (u2 dt5 54 (l5_2).toNat p2) hI12 hF13 (by first | with_reducible assumption | omega | exact ALLV_0 (by fail) | exact ALLV_s qA (by fail) (by fail) (fun j hj => by (repeat rw [u2_ne (by fail)])) (by (repeat (first | rw [u2_eq] | rw [u2_ne (by fail)])))) (by first | with_reducible assumption | fail | exact ALLV_0 (by fail) | exact ALLV_s qA (by omega) (by omega) (fun j hj => by (repeat rw [u2_ne (by omega)])) (by (repeat (first | rw [u2_eq] | rw [u2_ne (by fail)])))) (by omega)) ⟨.inl rfl, .inl rfl, .inl rfl, .inl rfl, trivial⟩
  exact GO.le (loop10 _ 0 dt hI hF (by first | with_reducible assumption | omega | exact ALLV_0 (by fail) | exact ALLV_s qA (by fail) (by fail) (fun j hj => by (repeat rw [u2_ne (by fail)])) (by (repeat (first | rw [u2_eq] | rw [u2_ne (by fail)])))) (by first | with_reducible assumption | fail | exact ALLV_0 (by omega) | exact ALLV_s qA (by fail) (by fail) (fun j hj => by (repeat rw [u2_ne (by fail)])) (by (repeat (first | rw [u2_eq] | rw [u2_ne (by fail)])))) (Nat.lt_succ_self _)) ⟨.inl rfl, .inl rfl, .inl rfl, .inl rfl, trivial⟩
theorem sp_J7_fill_53178_w55 (L : Nat) (xs : Nat → Int32) (sio : Option Nat) (d : Nat) (dt : Nat → Nat → Int) (hI : InvC dt)  (p2 : Int) (h_p2 : (-1) ≤ p2 ∧ p2 ≤ 0)  : GO (am_XX L xs sio) (d) 261 0 [some (.inr (.inr (some 55))), some (.inl p2), none, none] [] (SH, dt) (fun r w2 => ∃ dt2 : Nat → Nat → Int, w2 = (SH, dt2) ∧ InvC dt2 ∧ Fr [55] dt dt2 ∧ ((r = none ∧ (ALLV (dt2 55) 12 p2)))) := by
  have hF : Fr [55] dt dt := Fr_refl
  refine go_toq PM261 (k := 5) (pc' := 5) (L' := [some (.inr (.inr (some 55))), some (.inl p2), some (.inl 0), some (.inl 12)]) (st' := []) (w' := (SH, dt)) rfl ?_
  have loop10 : ∀ (k_ : Nat) (l5_2 : Int) (dt5 : Nat → Nat → Int) (hI6 : InvC dt5) (hF7 : Fr [55] dt dt5) (i8 : 0 ≤ l5_2 ∧ l5_2 ≤ 12) (i9 : ALLV (dt5 55) l5_2 p2), (13 - l5_2).toNat < k_ → GO (am_XX L xs sio) (d) 261 5 [some (.inr (.inr (some 55))), some (.inl p2), some (.inl l5_2), some (.inl 12)] [] (SH, dt5) (fun r w2 => ∃ dt2 : Nat → Nat → Int, w2 = (SH, dt2) ∧ InvC dt2 ∧ Fr [55] dt dt2 ∧ ((r = none ∧ (ALLV (dt2 55) 12 p2)))) := by
    intro k_
    induction k_ with
    | zero => intro l5_2 dt5 hI6 hF7 i8 i9 hm; exact absurd hm (Nat.not_lt_zero _)
    | succ k_ ih_loop10 =>
      intro l5_2 dt5 hI6 hF7 i8 i9 hm
      have qA := i9
      refine go_ifq PM261 (k := 2) (p1 := 20) (p2 := 10) (L' := [some (.inr (.inr (some 55))), some (.inl p2), some (.inl l5_2), some (.inl 12)]) (st' := []) (w' := (SH, dt5)) rfl (c_ge (a := l5_2) (b := 12) (by first | exact bnd i8 (by decide) (by decide) | exact ⟨by fail, by fail⟩) ⟨by decide, by decide⟩) (fun c11 => ?_) (fun c11 => ?_)
      · skip
        refine go_retq PM261 (k := 0) (r := none) (w1 := (SH, dt5)) rfl ?_
        exact ⟨dt5, rfl, hI6, hF7, ⟨rfl, by exact ALLV_k qA (by omega) (fun j => rfl)⟩⟩
      · skip
        refine go_toq PM261 (k := 3) (pc' := 13) (L' := [some (.inr (.inr (some 55))), some (.inl p2), some (.inl l5_2), some (.inl 12)]) (st' := [.inl p2, .inl l5_2, .inr (.inr (some 55))]) (w' := (SH, dt5)) rfl ?_
        have hI12 : InvC (u2 dt5 55 (l5_2).toNat p2) := InvC_u2 hI6 (lo := -2147483648) (hi := 2147483647) rfl rfl rfl (by first | exact bnd1 h_p2 (by decide) | fail) (by first | exact bnd2 h_p2 (by decide) | fail)
        have hF13 : Fr [55] dt (u2 dt5 55 (l5_2).toNat p2) := Fr_u2 hF7 (by decide)
        refine go_smpq PM261 (L' := [some (.inr (.inr (some 55))), some (.inl p2), some (.inl l5_2), some (.inl 12)]) (st' := []) (w' := (SH, (u2 dt5 55 (l5_2).toNat p2))) rfl rfl (s_iast (n := 12) rfl (by first | exact bndc i8 c11 (by decide) (by decide) | exact bndx i8 (by decide) (by decide) | exact ⟨by fail, by fail⟩) (by first | exact bnd h_p2 (by decide) (by decide) | exact ⟨by fail, by fail⟩)) ?_
        refine go_toq PM261 (k := 2) (pc' := 5) (L' := [some (.inr (.inr (some 55))), some (.inl p2), some (.inl (l5_2 + 1)), some (.inl 12)]) (st' := []) (w' := (SH, (u2 dt5 55 (l5_2).toNat p2))) rfl ?_
        exact GO.le (ih_loop10 (l5_2 + 1) (u2 dt5 55 (l5_2).toNat p2) hI12 hF13 (by first | with_reducible assumption | omega | exact ALLV_0 (by fail) | exact ALLV_s qA (by fail) (by fail) (fun j hj => by (repeat rw [u2_ne (by fail)])) (by (repeat (first | rw [u2_eq] | rw [u2_ne (by fail)])))) (by first | with_reducible assumption | fail | exact ALLV_0 (by fail) | exact ALLV_s qA (by omega) (by omega) (fun j hj => by (repeat rw [u2_ne (by omega)])) (by (repeat (first | rw [u2_eq] | rw [u2_ne (by fail)])))) (by omega)) ⟨.inl rfl, .inl rfl, .inl rfl, .inl rfl, trivial⟩
  exact GO.le (loop10 _ 0 dt hI hF (by first | with_reducible assumption | omega | exact ALLV_0 (by fail) | exact ALLV_s qA (by fail) (by fail) (fun j hj => by (repeat rw [u2_ne (by fail)])) (by (repeat (first | rw [u2_eq] | rw [u2_ne (by fail)])))) (by first | with_reducible assumption | fail | exact ALLV_0 (by omega) | exact ALLV_s qA (by fail) (by fail) (fun j hj => by (repeat rw [u2_ne (by fail)])) (by (repeat (first | rw [u2_eq] | rw [u2_ne (by fail)])))) (Nat.lt_succ_self _)) ⟨.inl rfl, .inl rfl, .inl rfl, .inl rfl, trivial⟩
theorem sp_J7_fill_53178_w56 (L : Nat) (xs : Nat → Int32) (sio : Option Nat) (d : Nat) (dt : Nat → Nat → Int) (hI : InvC dt)  (p2 : Int) (h_p2 : (-1) ≤ p2 ∧ p2 ≤ 0)  : GO (am_XX L xs sio) (d) 261 0 [some (.inr (.inr (some 56))), some (.inl p2), none, none] [] (SH, dt) (fun r w2 => ∃ dt2 : Nat → Nat → Int, w2 = (SH, dt2) ∧ InvC dt2 ∧ Fr [56] dt dt2 ∧ ((r = none ∧ (ALLV (dt2 56) 48 p2)))) := by
  have hF : Fr [56] dt dt := Fr_refl
  refine go_toq PM261 (k := 5) (pc' := 5) (L' := [some (.inr (.inr (some 56))), some (.inl p2), some (.inl 0), some (.inl 48)]) (st' := []) (w' := (SH, dt)) rfl ?_
  have loop10 : ∀ (k_ : Nat) (l5_2 : Int) (dt5 : Nat → Nat → Int) (hI6 : InvC dt5) (hF7 : Fr [56] dt dt5) (i8 : 0 ≤ l5_2 ∧ l5_2 ≤ 48) (i9 : ALLV (dt5 56) l5_2 p2), (49 - l5_2).toNat < k_ → GO (am_XX L xs sio) (d) 261 5 [some (.inr (.inr (some 56))), some (.inl p2), some (.inl l5_2), some (.inl 48)] [] (SH, dt5) (fun r w2 => ∃ dt2 : Nat → Nat → Int, w2 = (SH, dt2) ∧ InvC dt2 ∧ Fr [56] dt dt2 ∧ ((r = none ∧ (ALLV (dt2 56) 48 p2)))) := by
    intro k_
    induction k_ with
    | zero => intro l5_2 dt5 hI6 hF7 i8 i9 hm; exact absurd hm (Nat.not_lt_zero _)
    | succ k_ ih_loop10 =>
      intro l5_2 dt5 hI6 hF7 i8 i9 hm
      have qA := i9
      refine go_ifq PM261 (k := 2) (p1 := 20) (p2 := 10) (L' := [some (.inr (.inr (some 56))), some (.inl p2), some (.inl l5_2), some (.inl 48)]) (st' := []) (w' := (SH, dt5)) rfl (c_ge (a := l5_2) (b := 48) (by first | exact bnd i8 (by decide) (by decide) | exact ⟨by fail, by fail⟩) ⟨by decide, by decide⟩) (fun c11 => ?_) (fun c11 => ?_)
      · skip
        refine go_retq PM261 (k := 0) (r := none) (w1 := (SH, dt5)) rfl ?_
        exact ⟨dt5, rfl, hI6, hF7, ⟨rfl, by exact ALLV_k qA (by omega) (fun j => rfl)⟩⟩
      · skip
        refine go_toq PM261 (k := 3) (pc' := 13) (L' := [some (.inr (.inr (some 56))), some (.inl p2), some (.inl l5_2), some (.inl 48)]) (st' := [.inl p2, .inl l5_2, .inr (.inr (some 56))]) (w' := (SH, dt5)) rfl ?_
        have hI12 : InvC (u2 dt5 56 (l5_2).toNat p2) := InvC_u2 hI6 (lo := -2147483648) (hi := 2147483647) rfl rfl rfl (by first | exact bnd1 h_p2 (by decide) | fail) (by first | exact bnd2 h_p2 (by decide) | fail)
        have hF13 : Fr [56] dt (u2 dt5 56 (l5_2).toNat p2) := Fr_u2 hF7 (by decide)
        refine go_smpq PM261 (L' := [some (.inr (.inr (some 56))), some (.inl p2), some (.inl l5_2), some (.inl 48)]) (st' := []) (w' := (SH, (u2 dt5 56 (l5_2).toNat p2))) rfl rfl (s_iast (n := 48) rfl (by first | exact bndc i8 c11 (by decide) (by decide) | exact bndx i8 (by decide) (by decide) | exact ⟨by fail, by fail⟩) (by first | exact bnd h_p2 (by decide) (by decide) | exact ⟨by fail, by fail⟩)) ?_
        refine go_toq PM261 (k := 2) (pc' := 5) (L' := [some (.inr (.inr (some 56))), some (.inl p2), some (.inl (l5_2 + 1)), some (.inl 48)]) (st' := []) (w' := (SH, (u2 dt5 56 (l5_2).toNat p2))) rfl ?_
        exact GO.le (ih_loop10 (l5_2 + 1) (u2 dt5 56 (l5_2).toNat p2) hI12 hF13 (by first | with_reducible assumption | omega | exact ALLV_0 (by fail) | exact ALLV_s qA (by fail) (by fail) (fun j hj => by (repeat rw [u2_ne (by fail)])) (by (repeat (first | rw [u2_eq] | rw [u2_ne (by fail)])))) (by first | with_reducible assumption | fail | exact ALLV_0 (by fail) | exact ALLV_s qA (by omega) (by omega) (fun j hj => by (repeat rw [u2_ne (by omega)])) (by (repeat (first | rw [u2_eq] | rw [u2_ne (by fail)])))) (by omega)) ⟨.inl rfl, .inl rfl, .inl rfl, .inl rfl, trivial⟩
  exact GO.le (loop10 _ 0 dt hI hF (by first | with_reducible assumption | omega | exact ALLV_0 (by fail) | exact ALLV_s qA (by fail) (by fail) (fun j hj => by (repeat rw [u2_ne (by fail)])) (by (repeat (first | rw [u2_eq] | rw [u2_ne (by fail)])))) (by first | with_reducible assumption | fail | exact ALLV_0 (by omega) | exact ALLV_s qA (by fail) (by fail) (fun j hj => by (repeat rw [u2_ne (by fail)])) (by (repeat (first | rw [u2_eq] | rw [u2_ne (by fail)])))) (Nat.lt_succ_self _)) ⟨.inl rfl, .inl rfl, .inl rfl, .inl rfl, trivial⟩
theorem sp_X4_begin_w (L : Nat) (xs : Nat → Int32) (sio : Option Nat) (d : Nat) (dt : Nat → Nat → Int) (hI : InvC dt)    : GO (am_XX L xs sio) (d + 1) 51 0 [some (.inr (.inr (some 43)))] [] (SH, dt) (fun r w2 => ∃ dt2 : Nat → Nat → Int, w2 = (SH, dt2) ∧ InvC dt2 ∧ Fr [44, 45, 46, 47, 48, 49, 50, 51, 52, 53, 54, 55, 56] dt dt2 ∧ ((r = none ∧ (VC 44 dt2 = W0)))) := by
  have hF : Fr [44, 45, 46, 47, 48, 49, 50, 51, 52, 53, 54, 55, 56] dt dt := Fr_refl
  refine go_toq PM51 (k := 3) (pc' := 5) (L' := [some (.inr (.inr (some 43)))]) (st' := [.inl 0, .inr (.inr (some 44))]) (w' := (SH, dt)) rfl ?_
  refine go_callq PM51 PM261 (Q' := _) rfl rfl rfl rfl (sp_J7_fill_53178_w44 L xs sio (d + 0) dt hI  0 ⟨by decide, by decide⟩ ) ?_
  rintro _ _ ⟨dt2, rfl, hI3, hF4, h1⟩
  refine ⟨rfl, ?_⟩
  have hF5 : Fr [44, 45, 46, 47, 48, 49, 50, 51, 52, 53, 54, 55, 56] dt dt2 := Fr_tr hF hF4 (by decide)
  rcases h1 with ⟨rfl, h1⟩
  refine go_toq PM51 (k := 3) (pc' := 13) (L' := [some (.inr (.inr (some 43)))]) (st' := [.inl (-1), .inr (.inr (some 45))]) (w' := (SH, dt2)) rfl ?_
  refine go_callq PM51 PM261 (Q' := _) rfl rfl rfl rfl (sp_J7_fill_53178_w45 L xs sio (d + 0) dt2 hI3  (-1) ⟨by decide, by decide⟩ ) ?_
  rintro _ _ ⟨dt7, rfl, hI8, hF9, h6⟩
  refine ⟨rfl, ?_⟩
  have hF10 : Fr [44, 45, 46, 47, 48, 49, 50, 51, 52, 53, 54, 55, 56] dt dt7 := Fr_tr hF5 hF9 (by decide)
  rcases h6 with ⟨rfl, h6⟩
  have b11 := ALLV_k h1 (Int.le_refl _) (hF9 44 (by decide))
  refine go_toq PM51 (k := 3) (pc' := 21) (L' := [some (.inr (.inr (some 43)))]) (st' := [.inl 0, .inr (.inr (some 46))]) (w' := (SH, dt7)) rfl ?_
  refine go_callq PM51 PM261 (Q' := _) rfl rfl rfl rfl (sp_J7_fill_53178_w46 L xs sio (d + 0) dt7 hI8  0 ⟨by decide, by decide⟩ ) ?_
  rintro _ _ ⟨dt13, rfl, hI14, hF15, h12⟩
  refine ⟨rfl, ?_⟩
  have hF16 : Fr [44, 45, 46, 47, 48, 49, 50, 51, 52, 53, 54, 55, 56] dt dt13 := Fr_tr hF10 hF15 (by decide)
  rcases h12 with ⟨rfl, h12⟩
  have b17 := ALLV_k b11 (Int.le_refl _) (hF15 44 (by decide))
  have b18 := ALLV_k h6 (Int.le_refl _) (hF15 45 (by decide))
  refine go_toq PM51 (k := 3) (pc' := 29) (L' := [some (.inr (.inr (some 43)))]) (st' := [.inl (-1), .inr (.inr (some 47))]) (w' := (SH, dt13)) rfl ?_
  refine go_callq PM51 PM261 (Q' := _) rfl rfl rfl rfl (sp_J7_fill_53178_w47 L xs sio (d + 0) dt13 hI14  (-1) ⟨by decide, by decide⟩ ) ?_
  rintro _ _ ⟨dt20, rfl, hI21, hF22, h19⟩
  refine ⟨rfl, ?_⟩
  have hF23 : Fr [44, 45, 46, 47, 48, 49, 50, 51, 52, 53, 54, 55, 56] dt dt20 := Fr_tr hF16 hF22 (by decide)
  rcases h19 with ⟨rfl, h19⟩
  have b24 := ALLV_k b17 (Int.le_refl _) (hF22 44 (by decide))
  have b25 := ALLV_k b18 (Int.le_refl _) (hF22 45 (by decide))
  have b26 := ALLV_k h12 (Int.le_refl _) (hF22 46 (by decide))
  refine go_toq PM51 (k := 3) (pc' := 37) (L' := [some (.inr (.inr (some 43)))]) (st' := [.inl (-1), .inr (.inr (some 48))]) (w' := (SH, dt20)) rfl ?_
  refine go_callq PM51 PM261 (Q' := _) rfl rfl rfl rfl (sp_J7_fill_53178_w48 L xs sio (d + 0) dt20 hI21  (-1) ⟨by decide, by decide⟩ ) ?_
  rintro _ _ ⟨dt28, rfl, hI29, hF30, h27⟩
  refine ⟨rfl, ?_⟩
  have hF31 : Fr [44, 45, 46, 47, 48, 49, 50, 51, 52, 53, 54, 55, 56] dt dt28 := Fr_tr hF23 hF30 (by decide)
  rcases h27 with ⟨rfl, h27⟩
  have b32 := ALLV_k b24 (Int.le_refl _) (hF30 44 (by decide))
  have b33 := ALLV_k b25 (Int.le_refl _) (hF30 45 (by decide))
  have b34 := ALLV_k b26 (Int.le_refl _) (hF30 46 (by decide))
  have b35 := ALLV_k h19 (Int.le_refl _) (hF30 47 (by decide))
  refine go_toq PM51 (k := 3) (pc' := 45) (L' := [some (.inr (.inr (some 43)))]) (st' := [.inl (-1), .inr (.inr (some 49))]) (w' := (SH, dt28)) rfl ?_
  refine go_callq PM51 PM261 (Q' := _) rfl rfl rfl rfl (sp_J7_fill_53178_w49 L xs sio (d + 0) dt28 hI29  (-1) ⟨by decide, by decide⟩ ) ?_
  rintro _ _ ⟨dt37, rfl, hI38, hF39, h36⟩
  refine ⟨rfl, ?_⟩
  have hF40 : Fr [44, 45, 46, 47, 48, 49, 50, 51, 52, 53, 54, 55, 56] dt dt37 := Fr_tr hF31 hF39 (by decide)
  rcases h36 with ⟨rfl, h36⟩
  have b41 := ALLV_k b32 (Int.le_refl _) (hF39 44 (by decide))
  have b42 := ALLV_k b33 (Int.le_refl _) (hF39 45 (by decide))
  have b43 := ALLV_k b34 (Int.le_refl _) (hF39 46 (by decide))
  have b44 := ALLV_k b35 (Int.le_refl _) (hF39 47 (by decide))
  have b45 := ALLV_k h27 (Int.le_refl _) (hF39 48 (by decide))
  refine go_toq PM51 (k := 3) (pc' := 53) (L' := [some (.inr (.inr (some 43)))]) (st' := [.inl 0, .inr (.inr (some 50))]) (w' := (SH, dt37)) rfl ?_
  refine go_callq PM51 PM261 (Q' := _) rfl rfl rfl rfl (sp_J7_fill_53178_w50 L xs sio (d + 0) dt37 hI38  0 ⟨by decide, by decide⟩ ) ?_
  rintro _ _ ⟨dt47, rfl, hI48, hF49, h46⟩
  refine ⟨rfl, ?_⟩
  have hF50 : Fr [44, 45, 46, 47, 48, 49, 50, 51, 52, 53, 54, 55, 56] dt dt47 := Fr_tr hF40 hF49 (by decide)
  rcases h46 with ⟨rfl, h46⟩
  have b51 := ALLV_k b41 (Int.le_refl _) (hF49 44 (by decide))
  have b52 := ALLV_k b42 (Int.le_refl _) (hF49 45 (by decide))
  have b53 := ALLV_k b43 (Int.le_refl _) (hF49 46 (by decide))
  have b54 := ALLV_k b44 (Int.le_refl _) (hF49 47 (by decide))
  have b55 := ALLV_k b45 (Int.le_refl _) (hF49 48 (by decide))
  have b56 := ALLV_k h36 (Int.le_refl _) (hF49 49 (by decide))
  refine go_toq PM51 (k := 3) (pc' := 61) (L' := [some (.inr (.inr (some 43)))]) (st' := [.inl (-1), .inr (.inr (some 51))]) (w' := (SH, dt47)) rfl ?_
  refine go_callq PM51 PM261 (Q' := _) rfl rfl rfl rfl (sp_J7_fill_53178_w51 L xs sio (d + 0) dt47 hI48  (-1) ⟨by decide, by decide⟩ ) ?_
  rintro _ _ ⟨dt58, rfl, hI59, hF60, h57⟩
  refine ⟨rfl, ?_⟩
  have hF61 : Fr [44, 45, 46, 47, 48, 49, 50, 51, 52, 53, 54, 55, 56] dt dt58 := Fr_tr hF50 hF60 (by decide)
  rcases h57 with ⟨rfl, h57⟩
  have b62 := ALLV_k b51 (Int.le_refl _) (hF60 44 (by decide))
  have b63 := ALLV_k b52 (Int.le_refl _) (hF60 45 (by decide))
  have b64 := ALLV_k b53 (Int.le_refl _) (hF60 46 (by decide))
  have b65 := ALLV_k b54 (Int.le_refl _) (hF60 47 (by decide))
  have b66 := ALLV_k b55 (Int.le_refl _) (hF60 48 (by decide))
  have b67 := ALLV_k b56 (Int.le_refl _) (hF60 49 (by decide))
  have b68 := ALLV_k h46 (Int.le_refl _) (hF60 50 (by decide))
  refine go_toq PM51 (k := 3) (pc' := 69) (L' := [some (.inr (.inr (some 43)))]) (st' := [.inl (-1), .inr (.inr (some 52))]) (w' := (SH, dt58)) rfl ?_
  refine go_callq PM51 PM261 (Q' := _) rfl rfl rfl rfl (sp_J7_fill_53178_w52 L xs sio (d + 0) dt58 hI59  (-1) ⟨by decide, by decide⟩ ) ?_
  rintro _ _ ⟨dt70, rfl, hI71, hF72, h69⟩
  refine ⟨rfl, ?_⟩
  have hF73 : Fr [44, 45, 46, 47, 48, 49, 50, 51, 52, 53, 54, 55, 56] dt dt70 := Fr_tr hF61 hF72 (by decide)
  rcases h69 with ⟨rfl, h69⟩
  have b74 := ALLV_k b62 (Int.le_refl _) (hF72 44 (by decide))
  have b75 := ALLV_k b63 (Int.le_refl _) (hF72 45 (by decide))
  have b76 := ALLV_k b64 (Int.le_refl _) (hF72 46 (by decide))
  have b77 := ALLV_k b65 (Int.le_refl _) (hF72 47 (by decide))
  have b78 := ALLV_k b66 (Int.le_refl _) (hF72 48 (by decide))
  have b79 := ALLV_k b67 (Int.le_refl _) (hF72 49 (by decide))
  have b80 := ALLV_k b68 (Int.le_refl _) (hF72 50 (by decide))
  have b81 := ALLV_k h57 (Int.le_refl _) (hF72 51 (by decide))
  refine go_toq PM51 (k := 3) (pc' := 77) (L' := [some (.inr (.inr (some 43)))]) (st' := [.inl (-1), .inr (.inr (some 53))]) (w' := (SH, dt70)) rfl ?_
  refine go_callq PM51 PM261 (Q' := _) rfl rfl rfl rfl (sp_J7_fill_53178_w53 L xs sio (d + 0) dt70 hI71  (-1) ⟨by decide, by decide⟩ ) ?_
  rintro _ _ ⟨dt83, rfl, hI84, hF85, h82⟩
  refine ⟨rfl, ?_⟩
  have hF86 : Fr [44, 45, 46, 47, 48, 49, 50, 51, 52, 53, 54, 55, 56] dt dt83 := Fr_tr hF73 hF85 (by decide)
  rcases h82 with ⟨rfl, h82⟩
  have b87 := ALLV_k b74 (Int.le_refl _) (hF85 44 (by decide))
  have b88 := ALLV_k b75 (Int.le_refl _) (hF85 45 (by decide))
  have b89 := ALLV_k b76 (Int.le_refl _) (hF85 46 (by decide))
  have b90 := ALLV_k b77 (Int.le_refl _) (hF85 47 (by decide))
  have b91 := ALLV_k b78 (Int.le_refl _) (hF85 48 (by decide))
  have b92 := ALLV_k b79 (Int.le_refl _) (hF85 49 (by decide))
  have b93 := ALLV_k b80 (Int.le_refl _) (hF85 50 (by decide))
  have b94 := ALLV_k b81 (Int.le_refl _) (hF85 51 (by decide))
  have b95 := ALLV_k h69 (Int.le_refl _) (hF85 52 (by decide))
  refine go_toq PM51 (k := 3) (pc' := 85) (L' := [some (.inr (.inr (some 43)))]) (st' := [.inl (-1), .inr (.inr (some 54))]) (w' := (SH, dt83)) rfl ?_
  refine go_callq PM51 PM261 (Q' := _) rfl rfl rfl rfl (sp_J7_fill_53178_w54 L xs sio (d + 0) dt83 hI84  (-1) ⟨by decide, by decide⟩ ) ?_
  rintro _ _ ⟨dt97, rfl, hI98, hF99, h96⟩
  refine ⟨rfl, ?_⟩
  have hF100 : Fr [44, 45, 46, 47, 48, 49, 50, 51, 52, 53, 54, 55, 56] dt dt97 := Fr_tr hF86 hF99 (by decide)
  rcases h96 with ⟨rfl, h96⟩
  have b101 := ALLV_k b87 (Int.le_refl _) (hF99 44 (by decide))
  have b102 := ALLV_k b88 (Int.le_refl _) (hF99 45 (by decide))
  have b103 := ALLV_k b89 (Int.le_refl _) (hF99 46 (by decide))
  have b104 := ALLV_k b90 (Int.le_refl _) (hF99 47 (by decide))
  have b105 := ALLV_k b91 (Int.le_refl _) (hF99 48 (by decide))
  have b106 := ALLV_k b92 (Int.le_refl _) (hF99 49 (by decide))
  have b107 := ALLV_k b93 (Int.le_refl _) (hF99 50 (by decide))
  have b108 := ALLV_k b94 (Int.le_refl _) (hF99 51 (by decide))
  have b109 := ALLV_k b95 (Int.le_refl _) (hF99 52 (by decide))
  have b110 := ALLV_k h82 (Int.le_refl _) (hF99 53 (by decide))
  refine go_toq PM51 (k := 3) (pc' := 93) (L' := [some (.inr (.inr (some 43)))]) (st' := [.inl 0, .inr (.inr (some 55))]) (w' := (SH, dt97)) rfl ?_
  refine go_callq PM51 PM261 (Q' := _) rfl rfl rfl rfl (sp_J7_fill_53178_w55 L xs sio (d + 0) dt97 hI98  0 ⟨by decide, by decide⟩ ) ?_
  rintro _ _ ⟨dt112, rfl, hI113, hF114, h111⟩
  refine ⟨rfl, ?_⟩
  have hF115 : Fr [44, 45, 46, 47, 48, 49, 50, 51, 52, 53, 54, 55, 56] dt dt112 := Fr_tr hF100 hF114 (by decide)
  rcases h111 with ⟨rfl, h111⟩
  have b116 := ALLV_k b101 (Int.le_refl _) (hF114 44 (by decide))
  have b117 := ALLV_k b102 (Int.le_refl _) (hF114 45 (by decide))
  have b118 := ALLV_k b103 (Int.le_refl _) (hF114 46 (by decide))
  have b119 := ALLV_k b104 (Int.le_refl _) (hF114 47 (by decide))
  have b120 := ALLV_k b105 (Int.le_refl _) (hF114 48 (by decide))
  have b121 := ALLV_k b106 (Int.le_refl _) (hF114 49 (by decide))
  have b122 := ALLV_k b107 (Int.le_refl _) (hF114 50 (by decide))
  have b123 := ALLV_k b108 (Int.le_refl _) (hF114 51 (by decide))
  have b124 := ALLV_k b109 (Int.le_refl _) (hF114 52 (by decide))
  have b125 := ALLV_k b110 (Int.le_refl _) (hF114 53 (by decide))
  have b126 := ALLV_k h96 (Int.le_refl _) (hF114 54 (by decide))
  refine go_toq PM51 (k := 3) (pc' := 101) (L' := [some (.inr (.inr (some 43)))]) (st' := [.inl (-1), .inr (.inr (some 56))]) (w' := (SH, dt112)) rfl ?_
  refine go_callq PM51 PM261 (Q' := _) rfl rfl rfl rfl (sp_J7_fill_53178_w56 L xs sio (d + 0) dt112 hI113  (-1) ⟨by decide, by decide⟩ ) ?_
  rintro _ _ ⟨dt128, rfl, hI129, hF130, h127⟩
  refine ⟨rfl, ?_⟩
  have hF131 : Fr [44, 45, 46, 47, 48, 49, 50, 51, 52, 53, 54, 55, 56] dt dt128 := Fr_tr hF115 hF130 (by decide)
  rcases h127 with ⟨rfl, h127⟩
  have b132 := ALLV_k b116 (Int.le_refl _) (hF130 44 (by decide))
  have b133 := ALLV_k b117 (Int.le_refl _) (hF130 45 (by decide))
  have b134 := ALLV_k b118 (Int.le_refl _) (hF130 46 (by decide))
  have b135 := ALLV_k b119 (Int.le_refl _) (hF130 47 (by decide))
  have b136 := ALLV_k b120 (Int.le_refl _) (hF130 48 (by decide))
  have b137 := ALLV_k b121 (Int.le_refl _) (hF130 49 (by decide))
  have b138 := ALLV_k b122 (Int.le_refl _) (hF130 50 (by decide))
  have b139 := ALLV_k b123 (Int.le_refl _) (hF130 51 (by decide))
  have b140 := ALLV_k b124 (Int.le_refl _) (hF130 52 (by decide))
  have b141 := ALLV_k b125 (Int.le_refl _) (hF130 53 (by decide))
  have b142 := ALLV_k b126 (Int.le_refl _) (hF130 54 (by decide))
  have b143 := ALLV_k h111 (Int.le_refl _) (hF130 55 (by decide))
  refine go_retq PM51 (k := 0) (r := none) (w1 := (SH, dt128)) rfl ?_
  exact ⟨dt128, rfl, hI129, hF131, ⟨rfl, by exact W0_c13 b132 b133 b134 b135 b136 b137 b138 b139 b140 b141 b142 b143 h127⟩⟩
theorem sp_X5_play_w (L : Nat) (xs : Nat → Int32) (sio : Option Nat) (d : Nat) (dt : Nat → Nat → Int) (hI : InvC dt) (hM : MW (dt 80))  (p1 : Int) (h_p1 : 0 ≤ p1 ∧ p1 ≤ 7) (h_p0 : SCL (dt 2) (dt 3) (dt 80)) : GO (am_XX L xs sio) (d + 4) 113 0 [some (.inr (.inr (some 0))), some (.inl p1), none] [] (SH, dt) (fun r w2 => ∃ dt2 : Nat → Nat → Int, w2 = (SH, dt2) ∧ InvC dt2 ∧ Fr [44, 45, 46, 47, 48, 49, 50, 51, 52, 53, 54, 55, 56] dt dt2 ∧ ((r = none ∧ (VC 44 dt2 = wend (dt 80) p1)))) := by
  have hF : Fr [44, 45, 46, 47, 48, 49, 50, 51, 52, 53, 54, 55, 56] dt dt := Fr_refl
  have hs_ := h_p0 p1.toNat (by omega)
  have hn_ := MW_am hM p1 ⟨by omega, by omega⟩
  have ei_ : 6 + p1.toNat = (6 + p1).toNat := by omega
  rw [ei_] at hs_
  refine go_toq PM113 (k := 2) (pc' := 4) (L' := [some (.inr (.inr (some 0))), some (.inl p1), none]) (st' := [.inr (.inr (some 43))]) (w' := (SH, dt)) rfl ?_
  refine go_callq PM113 PM51 (Q' := _) rfl rfl rfl rfl (sp_X4_begin_w L xs sio (d + 2) dt hI   ) ?_
  rintro _ _ ⟨dt2, rfl, hI3, hF4, h1⟩
  refine ⟨rfl, ?_⟩
  have hF5 : Fr [44, 45, 46, 47, 48, 49, 50, 51, 52, 53, 54, 55, 56] dt dt2 := Fr_tr hF hF4 (by decide)
  rcases h1 with ⟨rfl, h1⟩
  refine go_toq PM113 (k := 1) (pc' := 8) (L' := [some (.inr (.inr (some 0))), some (.inl p1), none]) (st' := [.inl p1]) (w' := (SH, dt2)) rfl ?_
  refine go_callq PM113 PM102 (Q' := _) rfl rfl rfl rfl (sp_X5_isScene L xs sio (d + 2) dt2 hI3  p1 (by first | exact h_p1 | exact bnd h_p1 (by decide) (by decide) | exact ⟨by omega, by omega⟩) ) ?_
  rintro _ _ ⟨rfl, h6⟩
  refine ⟨rfl, ?_⟩
  rcases h6 with ⟨rfl, h6⟩ | ⟨rfl, h6⟩
  · skip
    refine go_toq PM113 (k := 3) (pc' := 17) (L' := [some (.inr (.inr (some 0))), some (.inl p1), some (.inl 0)]) (st' := []) (w' := (SH, dt2)) rfl ?_
    have loop24 : ∀ (k_ : Nat) (l17_2 : Int) (dt18 : Nat → Nat → Int) (hI19 : InvC dt18) (hF20 : Fr [44, 45, 46, 47, 48, 49, 50, 51, 52, 53, 54, 55, 56] dt dt18) (i21 : 0 ≤ l17_2 ∧ l17_2 ≤ 24) (i22 : VC 44 dt18 = wpl (dt 80) (14 + 120 * p1.toNat) l17_2.toNat) (i23 : l17_2 ≤ dt 80 (6 + p1).toNat), (25 - l17_2).toNat < k_ → GO (am_XX L xs sio) (d + 4) 113 17 [some (.inr (.inr (some 0))), some (.inl p1), some (.inl l17_2)] [] (SH, dt18) (fun r w2 => ∃ dt2 : Nat → Nat → Int, w2 = (SH, dt2) ∧ InvC dt2 ∧ Fr [44, 45, 46, 47, 48, 49, 50, 51, 52, 53, 54, 55, 56] dt dt2 ∧ ((r = none ∧ (VC 44 dt2 = wend (dt 80) p1)))) := by
      intro k_
      induction k_ with
      | zero => intro l17_2 dt18 hI19 hF20 i21 i22 i23 hm; exact absurd hm (Nat.not_lt_zero _)
      | succ k_ ih_loop24 =>
        intro l17_2 dt18 hI19 hF20 i21 i22 i23 hm
        have qW := i22
        refine go_toq PM113 (k := 5) (pc' := 26) (L' := [some (.inr (.inr (some 0))), some (.inl p1), some (.inl l17_2)]) (st' := [.inl p1, .inr (.inr (some 3)), .inl l17_2]) (w' := (SH, dt18)) rfl ?_
        have r25 : (-2147483648) ≤ dt 3 (p1).toNat ∧ dt 3 (p1).toNat ≤ 2147483647 := InvC_get hI 3 (p1).toNat rfl rfl
        refine go_smpq PM113 (L' := [some (.inr (.inr (some 0))), some (.inl p1), some (.inl l17_2)]) (st' := [.inl (dt 3 (p1).toNat), .inl l17_2]) (w' := (SH, dt18)) rfl rfl (s_ev (s_iald (n := 8) (f := dt18 3) rfl (by first | exact bndx h_p1 (by decide) (by decide) | exact ⟨by omega, by omega⟩)) (hF20 3 (by decide) _)) ?_
        refine go_ifq PM113 (k := 0) (p1 := 63) (p2 := 30) (L' := [some (.inr (.inr (some 0))), some (.inl p1), some (.inl l17_2)]) (st' := []) (w' := (SH, dt18)) rfl (c_ge (a := l17_2) (b := dt 3 (p1).toNat) (by first | exact bnd i21 (by decide) (by decide) | exact ⟨by omega, by omega⟩) (by first | exact bnd r25 (by decide) (by decide) | exact ⟨by omega, by omega⟩)) (fun c26 => ?_) (fun c26 => ?_)
        · skip
          refine go_retq PM113 (k := 0) (r := none) (w1 := (SH, dt18)) rfl ?_
          exact ⟨dt18, rfl, hI19, hF20, ⟨rfl, by first | (exfalso; omega) | exact wend_e qW (by omega)⟩⟩
        · skip
          refine go_ifq PM113 (k := 2) (p1 := 63) (p2 := 36) (L' := [some (.inr (.inr (some 0))), some (.inl p1), some (.inl l17_2)]) (st' := []) (w' := (SH, dt18)) rfl (c_ge (a := l17_2) (b := 24) (by first | exact bnd i21 (by decide) (by decide) | exact bndd i21 c26 (by decide) (by decide) | exact ⟨by omega, by omega⟩) ⟨by decide, by decide⟩) (fun c27 => ?_) (fun c27 => ?_)
          · skip
            refine go_retq PM113 (k := 0) (r := none) (w1 := (SH, dt18)) rfl ?_
            exact ⟨dt18, rfl, hI19, hF20, ⟨rfl, by first | (exfalso; omega) | exact wend_e qW (by omega)⟩⟩
          · skip
            refine go_toq PM113 (k := 10) (pc' := 53) (L' := [some (.inr (.inr (some 0))), some (.inl p1), some (.inl l17_2)]) (st' := [.inl ((p1 * 24) + l17_2), .inr (.inr (some 2)), .inr (.inr (some 43))]) (w' := (SH, dt18)) rfl ?_
            have r28 : (-2147483648) ≤ dt 2 (((p1 * 24) + l17_2).toNat) ∧ dt 2 (((p1 * 24) + l17_2).toNat) ≤ 2147483647 := InvC_get hI 2 (((p1 * 24) + l17_2).toNat) rfl rfl
            refine go_smpq PM113 (L' := [some (.inr (.inr (some 0))), some (.inl p1), some (.inl l17_2)]) (st' := [.inl (dt 2 (((p1 * 24) + l17_2).toNat)), .inr (.inr (some 43))]) (w' := (SH, dt18)) rfl rfl (s_ev (s_iald (n := 192) (f := dt18 2) rfl ⟨by omega, by omega⟩) (hF20 2 (by decide) _)) ?_
            refine go_callq PM113 PM53 (Q' := _) rfl rfl rfl rfl (sp_X4_act_w44 L xs sio (d + 0) dt18 hI19 (dt 80 (14 + 120 * p1.toNat + 5 * l17_2.toNat)) (dt 80 (14 + 120 * p1.toNat + 5 * l17_2.toNat + 1)) (dt 80 (14 + 120 * p1.toNat + 5 * l17_2.toNat + 2)) (dt 80 (14 + 120 * p1.toNat + 5 * l17_2.toNat + 3)) (dt 80 (14 + 120 * p1.toNat + 5 * l17_2.toNat + 4)) (dt 2 (((p1 * 24) + l17_2).toNat)) (by first | exact bnd r28 (by decide) (by decide) | exact ⟨by omega, by omega⟩) (by first | exact True.intro | with_reducible assumption | rfl | omega | trivial | (rw [qW]; exact WOK_m (WOK_pl hM (by omega) _ (by omega)) (by omega)) | (rw [show ((p1 * 24) + l17_2).toNat = 24 * p1.toNat + l17_2.toNat by first | with_reducible assumption | omega]; exact hs_.2 _ (by omega))) (by first | exact True.intro | with_reducible assumption | rfl | omega | trivial | (rw [qW]; exact WOK_m (WOK_pl hM (by omega) _ (by omega)) (by omega)) | (rw [show ((p1 * 24) + l17_2).toNat = 24 * p1.toNat + l17_2.toNat by first | with_reducible assumption | omega]; exact hs_.2 _ (by omega)))) ?_
            rintro _ _ ⟨dt30, rfl, hI31, hF32, h29⟩
            refine ⟨rfl, ?_⟩
            have hF33 : Fr [44, 45, 46, 47, 48, 49, 50, 51, 52, 53, 54, 55, 56] dt dt30 := Fr_tr hF20 hF32 (by decide)
            rcases h29 with ⟨rfl, h29⟩
            have WE34 := h29
            refine go_toq PM113 (k := 2) (pc' := 17) (L' := [some (.inr (.inr (some 0))), some (.inl p1), some (.inl (l17_2 + 1))]) (st' := []) (w' := (SH, dt30)) rfl ?_
            exact GO.le (ih_loop24 (l17_2 + 1) dt30 hI31 hF33 (by first | with_reducible assumption | omega | exact WE34 | exact wpl_s qW (by omega) WE34 rfl rfl rfl rfl rfl) (by first | with_reducible assumption | omega | exact WE34 | exact wpl_s qW (by omega) WE34 rfl rfl rfl rfl rfl) (by first | with_reducible assumption | omega | exact WE34 | exact wpl_s qW (by omega) WE34 rfl rfl rfl rfl rfl) (by omega)) ⟨.inl rfl, .inl rfl, .inl rfl, trivial⟩
    exact GO.le (loop24 _ 0 dt2 hI3 hF5 (by first | with_reducible assumption | omega | exact h1 | exact wpl_s qW (by omega) h1 rfl rfl rfl rfl rfl) (by first | with_reducible assumption | omega | exact h1 | exact wpl_s qW (by omega) h1 rfl rfl rfl rfl rfl) (by first | with_reducible assumption | omega | exact h1 | exact wpl_s qW (by omega) h1 rfl rfl rfl rfl rfl) (Nat.lt_succ_self _)) ⟨.inl rfl, .inl rfl, .inl rfl, trivial⟩
  · skip
    refine go_retq PM113 (k := 1) (r := none) (w1 := (SH, dt2)) rfl ?_
    exact ⟨dt2, rfl, hI3, hF5, ⟨rfl, by first | (exfalso; omega) | exact wend_e qW (by omega)⟩⟩
set_option maxRecDepth 20000 in
theorem sp_X6_goes_w (L : Nat) (xs : Nat → Int32) (sio : Option Nat) (d : Nat) (dt : Nat → Nat → Int) (hI : InvC dt) (hM : MW (dt 80))  (p1 : Int) (h_p1 : 0 ≤ p1 ∧ p1 ≤ 7)  : GO (am_XX L xs sio) (d + 4) 184 0 [some (.inr (.inr (some 79))), some (.inl p1), none, none] [] (SH, dt) (fun r w2 => ∃ dt2 : Nat → Nat → Int, w2 = (SH, dt2) ∧ InvC dt2 ∧ Fr [88, 89, 90, 91, 92, 93, 94, 95, 96, 97, 98, 99, 100] dt dt2 ∧ ((r = none ∧ (VR dt2 = wend (dt 80) p1)))) := by
  have hF : Fr [88, 89, 90, 91, 92, 93, 94, 95, 96, 97, 98, 99, 100] dt dt := Fr_refl
  have hn_ := MW_am hM p1 ⟨by omega, by omega⟩
  refine go_toq PM184 (k := 1) (pc' := 1) (L' := [some (.inr (.inr (some 79))), some (.inl p1), none, none]) (st' := [.inr (.inr (some 79))]) (w' := (SH, dt)) rfl ?_
  refine go_callq PM184 PM177 (Q' := _) rfl rfl rfl rfl (sp_X6_begins_w L xs sio (d + 3) dt hI   ) ?_
  rintro _ _ ⟨dt2, rfl, hI3, hF4, h1⟩
  refine ⟨rfl, ?_⟩
  have hF5 : Fr [88, 89, 90, 91, 92, 93, 94, 95, 96, 97, 98, 99, 100] dt dt2 := Fr_tr hF hF4 (by decide)
  rcases h1 with ⟨rfl, h1⟩
  refine go_toq PM184 (k := 2) (pc' := 6) (L' := [some (.inr (.inr (some 79))), some (.inl p1), some (.inl 0), none]) (st' := []) (w' := (SH, dt2)) rfl ?_
  have loop27 : ∀ (k_ : Nat) (l6_2 : Int) (dt21 : Nat → Nat → Int) (hI22 : InvC dt21) (hF23 : Fr [88, 89, 90, 91, 92, 93, 94, 95, 96, 97, 98, 99, 100] dt dt21) (i24 : 0 ≤ l6_2 ∧ l6_2 ≤ 24) (i25 : VR dt21 = wpl (dt 80) (14 + 120 * p1.toNat) l6_2.toNat) (i26 : l6_2 ≤ dt 80 (6 + p1).toNat), (25 - l6_2).toNat < k_ → GO (am_XX L xs sio) (d + 4) 184 6 [some (.inr (.inr (some 79))), some (.inl p1), some (.inl l6_2), none] [] (SH, dt21) (fun r w2 => ∃ dt2 : Nat → Nat → Int, w2 = (SH, dt2) ∧ InvC dt2 ∧ Fr [88, 89, 90, 91, 92, 93, 94, 95, 96, 97, 98, 99, 100] dt dt2 ∧ ((r = none ∧ (VR dt2 = wend (dt 80) p1)))) := by
    intro k_
    induction k_ with
    | zero => intro l6_2 dt21 hI22 hF23 i24 i25 i26 hm; exact absurd hm (Nat.not_lt_zero _)
    | succ k_ ih_loop27 =>
      intro l6_2 dt21 hI22 hF23 i24 i25 i26 hm
      have qW := i25
      refine go_toq PM184 (k := 6) (pc' := 15) (L' := [some (.inr (.inr (some 79))), some (.inl p1), some (.inl l6_2), none]) (st' := [.inl (6 + p1), .inr (.inr (some 80)), .inl l6_2]) (w' := (SH, dt21)) rfl ?_
      have r28 : (-2147483648) ≤ dt 80 ((6 + p1).toNat) ∧ dt 80 ((6 + p1).toNat) ≤ 2147483647 := InvC_get hI 80 ((6 + p1).toNat) rfl rfl
      have r29 := MW_am hM (p1) ⟨by omega, by omega⟩
      refine go_smpq PM184 (L' := [some (.inr (.inr (some 79))), some (.inl p1), some (.inl l6_2), none]) (st' := [.inl (dt 80 ((6 + p1).toNat)), .inl l6_2]) (w' := (SH, dt21)) rfl rfl (s_ev (s_iald (n := 7460) (f := dt21 80) rfl ⟨by omega, by omega⟩) (hF23 80 (by decide) _)) ?_
      refine go_ifq PM184 (k := 0) (p1 := 79) (p2 := 19) (L' := [some (.inr (.inr (some 79))), some (.inl p1), some (.inl l6_2), none]) (st' := []) (w' := (SH, dt21)) rfl (c_ge (a := l6_2) (b := dt 80 ((6 + p1).toNat)) (by first | exact bnd i24 (by decide) (by decide) | exact ⟨by fail, by fail⟩) (by first | exact bnd r28 (by decide) (by decide) | exact ⟨by fail, by fail⟩)) (fun c30 => ?_) (fun c30 => ?_)
      · skip
        refine go_retq PM184 (k := 0) (r := none) (w1 := (SH, dt21)) rfl ?_
        exact ⟨dt21, rfl, hI22, hF23, ⟨rfl, by exact wend_e qW (by omega)⟩⟩
      · skip
        refine go_toq PM184 (k := 14) (pc' := 37) (L' := [some (.inr (.inr (some 79))), some (.inl p1), some (.inl l6_2), some (.inl (14 + (5 * ((24 * p1) + l6_2))))]) (st' := [.inl (14 + (5 * ((24 * p1) + l6_2))), .inr (.inr (some 80)), .inr (.inr (some 79))]) (w' := (SH, dt21)) rfl ?_
        have r31 : (-2147483648) ≤ dt 80 ((14 + (5 * ((24 * p1) + l6_2))).toNat) ∧ dt 80 ((14 + (5 * ((24 * p1) + l6_2))).toNat) ≤ 2147483647 := InvC_get hI 80 ((14 + (5 * ((24 * p1) + l6_2))).toNat) rfl rfl
        have r32 := MW_a hM (((24 * p1) + l6_2)) ⟨by omega, by omega⟩
        refine go_smpq PM184 (L' := [some (.inr (.inr (some 79))), some (.inl p1), some (.inl l6_2), some (.inl (14 + (5 * ((24 * p1) + l6_2))))]) (st' := [.inl (dt 80 ((14 + (5 * ((24 * p1) + l6_2))).toNat)), .inr (.inr (some 79))]) (w' := (SH, dt21)) rfl rfl (s_ev (s_iald (n := 7460) (f := dt21 80) rfl ⟨by omega, by omega⟩) (hF23 80 (by decide) _)) ?_
        refine go_toq PM184 (k := 5) (pc' := 45) (L' := [some (.inr (.inr (some 79))), some (.inl p1), some (.inl l6_2), some (.inl (14 + (5 * ((24 * p1) + l6_2))))]) (st' := [.inl ((14 + (5 * ((24 * p1) + l6_2))) + 1), .inr (.inr (some 80)), .inl (dt 80 ((14 + (5 * ((24 * p1) + l6_2))).toNat)), .inr (.inr (some 79))]) (w' := (SH, dt21)) rfl ?_
        have r33 : (-2147483648) ≤ dt 80 (((14 + (5 * ((24 * p1) + l6_2))) + 1).toNat) ∧ dt 80 (((14 + (5 * ((24 * p1) + l6_2))) + 1).toNat) ≤ 2147483647 := InvC_get hI 80 (((14 + (5 * ((24 * p1) + l6_2))) + 1).toNat) rfl rfl
        refine go_smpq PM184 (L' := [some (.inr (.inr (some 79))), some (.inl p1), some (.inl l6_2), some (.inl (14 + (5 * ((24 * p1) + l6_2))))]) (st' := [.inl (dt 80 (((14 + (5 * ((24 * p1) + l6_2))) + 1).toNat)), .inl (dt 80 ((14 + (5 * ((24 * p1) + l6_2))).toNat)), .inr (.inr (some 79))]) (w' := (SH, dt21)) rfl rfl (s_ev (s_iald (n := 7460) (f := dt21 80) rfl ⟨by omega, by omega⟩) (hF23 80 (by decide) _)) ?_
        refine go_toq PM184 (k := 5) (pc' := 53) (L' := [some (.inr (.inr (some 79))), some (.inl p1), some (.inl l6_2), some (.inl (14 + (5 * ((24 * p1) + l6_2))))]) (st' := [.inl ((14 + (5 * ((24 * p1) + l6_2))) + 2), .inr (.inr (some 80)), .inl (dt 80 (((14 + (5 * ((24 * p1) + l6_2))) + 1).toNat)), .inl (dt 80 ((14 + (5 * ((24 * p1) + l6_2))).toNat)), .inr (.inr (some 79))]) (w' := (SH, dt21)) rfl ?_
        have r34 : (-2147483648) ≤ dt 80 (((14 + (5 * ((24 * p1) + l6_2))) + 2).toNat) ∧ dt 80 (((14 + (5 * ((24 * p1) + l6_2))) + 2).toNat) ≤ 2147483647 := InvC_get hI 80 (((14 + (5 * ((24 * p1) + l6_2))) + 2).toNat) rfl rfl
        refine go_smpq PM184 (L' := [some (.inr (.inr (some 79))), some (.inl p1), some (.inl l6_2), some (.inl (14 + (5 * ((24 * p1) + l6_2))))]) (st' := [.inl (dt 80 (((14 + (5 * ((24 * p1) + l6_2))) + 2).toNat)), .inl (dt 80 (((14 + (5 * ((24 * p1) + l6_2))) + 1).toNat)), .inl (dt 80 ((14 + (5 * ((24 * p1) + l6_2))).toNat)), .inr (.inr (some 79))]) (w' := (SH, dt21)) rfl rfl (s_ev (s_iald (n := 7460) (f := dt21 80) rfl ⟨by omega, by omega⟩) (hF23 80 (by decide) _)) ?_
        refine go_toq PM184 (k := 5) (pc' := 61) (L' := [some (.inr (.inr (some 79))), some (.inl p1), some (.inl l6_2), some (.inl (14 + (5 * ((24 * p1) + l6_2))))]) (st' := [.inl ((14 + (5 * ((24 * p1) + l6_2))) + 3), .inr (.inr (some 80)), .inl (dt 80 (((14 + (5 * ((24 * p1) + l6_2))) + 2).toNat)), .inl (dt 80 (((14 + (5 * ((24 * p1) + l6_2))) + 1).toNat)), .inl (dt 80 ((14 + (5 * ((24 * p1) + l6_2))).toNat)), .inr (.inr (some 79))]) (w' := (SH, dt21)) rfl ?_
        have r35 : (-2147483648) ≤ dt 80 (((14 + (5 * ((24 * p1) + l6_2))) + 3).toNat) ∧ dt 80 (((14 + (5 * ((24 * p1) + l6_2))) + 3).toNat) ≤ 2147483647 := InvC_get hI 80 (((14 + (5 * ((24 * p1) + l6_2))) + 3).toNat) rfl rfl
        refine go_smpq PM184 (L' := [some (.inr (.inr (some 79))), some (.inl p1), some (.inl l6_2), some (.inl (14 + (5 * ((24 * p1) + l6_2))))]) (st' := [.inl (dt 80 (((14 + (5 * ((24 * p1) + l6_2))) + 3).toNat)), .inl (dt 80 (((14 + (5 * ((24 * p1) + l6_2))) + 2).toNat)), .inl (dt 80 (((14 + (5 * ((24 * p1) + l6_2))) + 1).toNat)), .inl (dt 80 ((14 + (5 * ((24 * p1) + l6_2))).toNat)), .inr (.inr (some 79))]) (w' := (SH, dt21)) rfl rfl (s_ev (s_iald (n := 7460) (f := dt21 80) rfl ⟨by omega, by omega⟩) (hF23 80 (by decide) _)) ?_
        refine go_toq PM184 (k := 5) (pc' := 69) (L' := [some (.inr (.inr (some 79))), some (.inl p1), some (.inl l6_2), some (.inl (14 + (5 * ((24 * p1) + l6_2))))]) (st' := [.inl ((14 + (5 * ((24 * p1) + l6_2))) + 4), .inr (.inr (some 80)), .inl (dt 80 (((14 + (5 * ((24 * p1) + l6_2))) + 3).toNat)), .inl (dt 80 (((14 + (5 * ((24 * p1) + l6_2))) + 2).toNat)), .inl (dt 80 (((14 + (5 * ((24 * p1) + l6_2))) + 1).toNat)), .inl (dt 80 ((14 + (5 * ((24 * p1) + l6_2))).toNat)), .inr (.inr (some 79))]) (w' := (SH, dt21)) rfl ?_
        have r36 : (-2147483648) ≤ dt 80 (((14 + (5 * ((24 * p1) + l6_2))) + 4).toNat) ∧ dt 80 (((14 + (5 * ((24 * p1) + l6_2))) + 4).toNat) ≤ 2147483647 := InvC_get hI 80 (((14 + (5 * ((24 * p1) + l6_2))) + 4).toNat) rfl rfl
        refine go_smpq PM184 (L' := [some (.inr (.inr (some 79))), some (.inl p1), some (.inl l6_2), some (.inl (14 + (5 * ((24 * p1) + l6_2))))]) (st' := [.inl (dt 80 (((14 + (5 * ((24 * p1) + l6_2))) + 4).toNat)), .inl (dt 80 (((14 + (5 * ((24 * p1) + l6_2))) + 3).toNat)), .inl (dt 80 (((14 + (5 * ((24 * p1) + l6_2))) + 2).toNat)), .inl (dt 80 (((14 + (5 * ((24 * p1) + l6_2))) + 1).toNat)), .inl (dt 80 ((14 + (5 * ((24 * p1) + l6_2))).toNat)), .inr (.inr (some 79))]) (w' := (SH, dt21)) rfl rfl (s_ev (s_iald (n := 7460) (f := dt21 80) rfl ⟨by omega, by omega⟩) (hF23 80 (by decide) _)) ?_
        refine go_callq PM184 PM183 (Q' := _) rfl rfl rfl rfl (sp_X6_acts_w L xs sio (d + 0) dt21 hI22  (dt 80 ((14 + (5 * ((24 * p1) + l6_2))).toNat)) (by first | exact bnd r31 (by decide) (by decide) | exact ⟨by omega, by omega⟩) (dt 80 (((14 + (5 * ((24 * p1) + l6_2))) + 1).toNat)) (by first | exact bnd r33 (by decide) (by decide) | exact ⟨by omega, by omega⟩) (dt 80 (((14 + (5 * ((24 * p1) + l6_2))) + 2).toNat)) (by first | exact bnd r34 (by decide) (by decide) | exact ⟨by fail, by fail⟩) (dt 80 (((14 + (5 * ((24 * p1) + l6_2))) + 3).toNat)) (by first | exact bnd r35 (by decide) (by decide) | exact ⟨by fail, by fail⟩) (dt 80 (((14 + (5 * ((24 * p1) + l6_2))) + 4).toNat)) (by first | exact bnd r36 (by decide) (by decide) | exact ⟨by fail, by fail⟩) (by first | exact True.intro | with_reducible assumption | rfl | fail | trivial | (rw [qW]; exact WOK_m (WOK_pl hM (by omega) _ (by omega)) (by omega))) (by first | exact True.intro | with_reducible assumption | rfl | omega | trivial | (rw [qW]; exact WOK_m (WOK_pl hM (by fail) _ (by fail)) (by fail))) (by first | exact True.intro | with_reducible assumption | rfl | omega | trivial | (rw [qW]; exact WOK_m (WOK_pl hM (by fail) _ (by fail)) (by fail))) (by first | exact True.intro | with_reducible assumption | rfl | omega | trivial | (rw [qW]; exact WOK_m (WOK_pl hM (by fail) _ (by fail)) (by fail))) (by first | exact True.intro | with_reducible assumption | rfl | omega | trivial | (rw [qW]; exact WOK_m (WOK_pl hM (by fail) _ (by fail)) (by fail))) (by first | exact True.intro | with_reducible assumption | rfl | omega | trivial | (rw [qW]; exact WOK_m (WOK_pl hM (by fail) _ (by fail)) (by fail)))) ?_
        rintro _ _ ⟨dt38, rfl, hI39, hF40, h37⟩
        refine ⟨rfl, ?_⟩
        have hF41 : Fr [88, 89, 90, 91, 92, 93, 94, 95, 96, 97, 98, 99, 100] dt dt38 := Fr_tr hF23 hF40 (by decide)
        rcases h37 with ⟨rfl, h37⟩
        refine go_toq PM184 (k := 2) (pc' := 6) (L' := [some (.inr (.inr (some 79))), some (.inl p1), some (.inl (l6_2 + 1)), some (.inl (14 + (5 * ((24 * p1) + l6_2))))]) (st' := []) (w' := (SH, dt38)) rfl ?_
        exact GO.le (ih_loop27 (l6_2 + 1) dt38 hI39 hF41 (by first | with_reducible assumption | omega | exact h37 | exact wpl_s qW (by fail) h37 (by fail) (by fail) (by fail) (by fail) (by fail)) (by first | with_reducible assumption | fail | exact h37 | exact wpl_s qW (by omega) h37 (by omega) (by omega) (by omega) (by omega) (by omega)) (by first | with_reducible assumption | omega | exact h37 | exact wpl_s qW (by fail) h37 (by fail) (by fail) (by fail) (by fail) (by fail)) (by omega)) ⟨.inl rfl, .inl rfl, .inl rfl, .inr ⟨rfl, trivial⟩, trivial⟩
  exact GO.le (loop27 _ 0 dt2 hI3 hF5 (by first | with_reducible assumption | omega | exact h1 | exact wpl_s qW (by fail) h1 (by fail) (by fail) (by fail) (by fail) (by fail)) (by first | with_reducible assumption | fail | exact h1 | exact wpl_s qW (by fail) h1 (by fail) (by fail) (by fail) (by fail) (by fail)) (by first | with_reducible assumption | omega | exact h1 | exact wpl_s qW (by fail) h1 (by fail) (by fail) (by fail) (by fail) (by fail)) (Nat.lt_succ_self _)) ⟨.inl rfl, .inl rfl, .inl rfl, .inl rfl, trivial⟩
theorem sp_X5_after_w (L : Nat) (xs : Nat → Int32) (sio : Option Nat) (d : Nat) (dt : Nat → Nat → Int) (hI : InvC dt) (hM : MW (dt 80))  (p1 : Int) (h_p1 : (-2147483648) ≤ p1 ∧ p1 ≤ 2147483647) (p2 : Int) (h_p2 : (-2147483648) ≤ p2 ∧ p2 ≤ 2147483647) (p3 : Int) (h_p3 : (-2147483648) ≤ p3 ∧ p3 ≤ 2147483647) (p4 : Int) (h_p4 : (-2147483648) ≤ p4 ∧ p4 ≤ 2147483647) (h_p0 : SCL (dt 2) (dt 3) (dt 80)) : GO (am_XX L xs sio) (d + 5) 72 0 [some (.inr (.inr (some 0))), some (.inl p1), some (.inl p2), some (.inl p3), some (.inl p4), none] [] (SH, dt) (fun r w2 => ∃ dt2 : Nat → Nat → Int, w2 = (SH, dt2) ∧ InvC dt2 ∧ Fr [44, 45, 46, 47, 48, 49, 50, 51, 52, 53, 54, 55, 56] dt dt2 ∧ ((r = some (.inl (-2)) ∧ (¬ ((0 ≤ p1 ∧ p1 ≤ 7) ∧ (0 ≤ p2 ∧ p2 ≤ 2) ∧ (0 ≤ p3 ∧ p3 ≤ 3) ∧ (0 ≤ p4 ∧ p4 ≤ 9)))) ∨ (∃ v : Int, r = some (.inl v) ∧ True ∧ ((0 ≤ p1 ∧ p1 ≤ 7) ∧ (0 ≤ p2 ∧ p2 ≤ 2) ∧ (0 ≤ p3 ∧ p3 ≤ 3) ∧ (0 ≤ p4 ∧ p4 ≤ 9)) ∧ (v = AFT (wend (dt 80) p1) p2.toNat p3.toNat p4)))) := by
  have hF : Fr [44, 45, 46, 47, 48, 49, 50, 51, 52, 53, 54, 55, 56] dt dt := Fr_refl
  refine go_toq PM72 (k := 1) (pc' := 1) (L' := [some (.inr (.inr (some 0))), some (.inl p1), some (.inl p2), some (.inl p3), some (.inl p4), none]) (st' := [.inl p1]) (w' := (SH, dt)) rfl ?_
  refine go_callq PM72 PM102 (Q' := _) rfl rfl rfl rfl (sp_X5_isScene L xs sio (d + 3) dt hI  p1 (by first | exact h_p1 | exact bnd h_p1 (by decide) (by decide) | exact ⟨by omega, by omega⟩) ) ?_
  rintro _ _ ⟨rfl, h1⟩
  refine ⟨rfl, ?_⟩
  rcases h1 with ⟨rfl, h1⟩ | ⟨rfl, h1⟩
  · skip
    refine go_toq PM72 (k := 2) (pc' := 8) (L' := [some (.inr (.inr (some 0))), some (.inl p1), some (.inl p2), some (.inl p3), some (.inl p4), none]) (st' := [.inl p2]) (w' := (SH, dt)) rfl ?_
    refine go_callq PM72 PM104 (Q' := _) rfl rfl rfl rfl (sp_X5_isThing L xs sio (d + 3) dt hI  p2 (by first | exact h_p2 | exact bnd h_p2 (by decide) (by decide) | exact ⟨by omega, by omega⟩) ) ?_
    rintro _ _ ⟨rfl, h2⟩
    refine ⟨rfl, ?_⟩
    rcases h2 with ⟨rfl, h2⟩ | ⟨rfl, h2⟩
    · skip
      refine go_toq PM72 (k := 2) (pc' := 15) (L' := [some (.inr (.inr (some 0))), some (.inl p1), some (.inl p2), some (.inl p3), some (.inl p4), none]) (st' := [.inl p3]) (w' := (SH, dt)) rfl ?_
      refine go_callq PM72 PM105 (Q' := _) rfl rfl rfl rfl (sp_X5_isWho L xs sio (d + 3) dt hI  p3 (by first | exact h_p3 | exact bnd h_p3 (by decide) (by decide) | exact ⟨by omega, by omega⟩) ) ?_
      rintro _ _ ⟨rfl, h3⟩
      refine ⟨rfl, ?_⟩
      rcases h3 with ⟨rfl, h3⟩ | ⟨rfl, h3⟩
      · skip
        refine go_toq PM72 (k := 3) (pc' := 26) (L' := [some (.inr (.inr (some 0))), some (.inl p1), some (.inl p2), some (.inl p3), some (.inl p4), none]) (st' := [.inl p1, .inr (.inr (some 0))]) (w' := (SH, dt)) rfl ?_
        refine go_callq PM72 PM113 (Q' := _) rfl rfl rfl rfl (sp_X5_play_w L xs sio (d + 0) dt hI hM  p1 (by first | exact h_p1 | exact bnd h_p1 (by decide) (by decide) | exact ⟨by omega, by omega⟩) (by first | exact True.intro | with_reducible assumption | rfl | omega | trivial | assumption)) ?_
        rintro _ _ ⟨dt5, rfl, hI6, hF7, h4⟩
        refine ⟨rfl, ?_⟩
        have hF8 : Fr [44, 45, 46, 47, 48, 49, 50, 51, 52, 53, 54, 55, 56] dt dt5 := Fr_tr hF hF7 (by decide)
        rcases h4 with ⟨rfl, h4⟩
        have rd9 : wend (dt 80) p1 3 p2.toNat = dt5 47 p2.toNat := by rw [← h4]; exact VC_r (f := 3) (by decide) (show p2.toNat < 3 by omega)
        have rd10 : wend (dt 80) p1 8 ((p3 * 3) + p2).toNat = dt5 52 ((p3 * 3) + p2).toNat := by rw [← h4]; exact VC_r (f := 8) (by decide) (show ((p3 * 3) + p2).toNat < 12 by omega)
        have rd11 : wend (dt 80) p1 9 ((p3 * 3) + p2).toNat = dt5 53 ((p3 * 3) + p2).toNat := by rw [← h4]; exact VC_r (f := 9) (by decide) (show ((p3 * 3) + p2).toNat < 12 by omega)
        have rd12 : wend (dt 80) p1 10 ((p3 * 3) + p2).toNat = dt5 54 ((p3 * 3) + p2).toNat := by rw [← h4]; exact VC_r (f := 10) (by decide) (show ((p3 * 3) + p2).toNat < 12 by omega)
        have rd13 : wend (dt 80) p1 11 ((p3 * 3) + p2).toNat = dt5 55 ((p3 * 3) + p2).toNat := by rw [← h4]; exact VC_r (f := 11) (by decide) (show ((p3 * 3) + p2).toNat < 12 by omega)
        have rd14 : wend (dt 80) p1 6 p2.toNat = dt5 50 p2.toNat := by rw [← h4]; exact VC_r (f := 6) (by decide) (show p2.toNat < 3 by omega)
        have rd15 : wend (dt 80) p1 7 p2.toNat = dt5 51 p2.toNat := by rw [← h4]; exact VC_r (f := 7) (by decide) (show p2.toNat < 6 by omega)
        have rd16 : wend (dt 80) p1 7 (3 + p2).toNat = dt5 51 (3 + p2).toNat := by rw [← h4]; exact VC_r (f := 7) (by decide) (show (3 + p2).toNat < 6 by omega)
        have rd17 : wend (dt 80) p1 4 p2.toNat = dt5 48 p2.toNat := by rw [← h4]; exact VC_r (f := 4) (by decide) (show p2.toNat < 3 by omega)
        have rd18 : wend (dt 80) p1 5 p2.toNat = dt5 49 p2.toNat := by rw [← h4]; exact VC_r (f := 5) (by decide) (show p2.toNat < 3 by omega)
        have hok_ := WOK_pl hM (k := p1.toNat) (by omega) (dt 80 (6 + p1).toNat).toNat (by have := MW_am hM p1 ⟨by omega, by omega⟩; omega)
        have r19 := wr_RR p4
        refine go_toq PM72 (k := 7) (pc' := 38) (L' := [some (.inr (.inr (some 0))), some (.inl p1), some (.inl p2), some (.inl p3), some (.inl p4), some (.inl ((p3 * 3) + p2))]) (st' := [.inl p4]) (w' := (SH, dt5)) rfl ?_
        have e21 : wr p4 = p4 := wr_R ⟨by omega, by omega⟩
        by_cases c20 : wr p4 < 0 ∨ 9 < wr p4
        · refine go_swoq PM72 (p1 := 198) (lo := 0) (hi := 9) rfl rfl c20 ?_
          refine go_retq PM72 (k := 1) (r := some (.inl (-2))) (w1 := (SH, dt5)) rfl ?_
          first | exact ⟨dt5, rfl, hI6, hF8, (Or.inl ⟨rfl, by first | exact True.intro | with_reducible assumption | rfl | omega | trivial⟩)⟩ | exact ⟨dt5, rfl, hI6, hF8, (Or.inr ⟨_, rfl, trivial, ⟨by first | exact True.intro | with_reducible assumption | rfl | omega | trivial, by have eo_ : ((p3 * 3) + p2).toNat = 3 * p3.toNat + p2.toNat := (by omega); have e3_ : (3 + p2).toNat = 3 + p2.toNat := (by omega); unfold AFT; rw [← eo_, ← e3_]; (repeat (first | rw [if_pos (by omega)] | rw [if_neg (by omega)])); omega⟩⟩)⟩
        · have c22 : wr p4 = 0 ∨ wr p4 = 1 ∨ wr p4 = 2 ∨ wr p4 = 3 ∨ wr p4 = 4 ∨ wr p4 = 5 ∨ wr p4 = 6 ∨ wr p4 = 7 ∨ wr p4 = 8 ∨ wr p4 = 9 := by omega
          rcases c22 with c22 | c22 | c22 | c22 | c22 | c22 | c22 | c22 | c22 | c22
          · refine go_swiq PM72 (v := 0) (p1 := 92) (lo := 0) (hi := 9) rfl c22 (by decide) rfl ?_
            refine go_toq PM72 (k := 4) (pc' := 100) (L' := [some (.inr (.inr (some 0))), some (.inl p1), some (.inl p2), some (.inl p3), some (.inl p4), some (.inl ((p3 * 3) + p2))]) (st' := [.inl p2, .inr (.inr (some 47))]) (w' := (SH, dt5)) rfl ?_
            have r23 : (-2147483648) ≤ dt5 47 (p2).toNat ∧ dt5 47 (p2).toNat ≤ 2147483647 := InvC_get hI6 47 (p2).toNat rfl rfl
            refine go_smpq PM72 (L' := [some (.inr (.inr (some 0))), some (.inl p1), some (.inl p2), some (.inl p3), some (.inl p4), some (.inl ((p3 * 3) + p2))]) (st' := [.inl (dt5 47 (p2).toNat)]) (w' := (SH, dt5)) rfl rfl (s_iald (n := 3) (f := dt5 47) rfl (by first | exact bndx h_p2 (by decide) (by decide) | exact ⟨by omega, by omega⟩)) ?_
            refine go_retq PM72 (k := 0) (r := some (.inl (dt5 47 (p2).toNat))) (w1 := (SH, dt5)) rfl ?_
            exact ⟨dt5, rfl, hI6, hF8, (Or.inr ⟨_, rfl, trivial, ⟨by first | exact True.intro | with_reducible assumption | rfl | omega | trivial, by have eo_ : ((p3 * 3) + p2).toNat = 3 * p3.toNat + p2.toNat := (by omega); have e3_ : (3 + p2).toNat = 3 + p2.toNat := (by omega); unfold AFT; rw [← eo_, ← e3_]; (repeat (first | rw [if_pos (by omega)] | rw [if_neg (by omega)])); omega⟩⟩)⟩
          · refine go_swiq PM72 (v := 1) (p1 := 102) (lo := 0) (hi := 9) rfl c22 (by decide) rfl ?_
            refine go_toq PM72 (k := 4) (pc' := 111) (L' := [some (.inr (.inr (some 0))), some (.inl p1), some (.inl p2), some (.inl p3), some (.inl p4), some (.inl ((p3 * 3) + p2))]) (st' := [.inl ((p3 * 3) + p2), .inr (.inr (some 52))]) (w' := (SH, dt5)) rfl ?_
            have r24 : (-2147483648) ≤ dt5 52 (((p3 * 3) + p2).toNat) ∧ dt5 52 (((p3 * 3) + p2).toNat) ≤ 2147483647 := InvC_get hI6 52 (((p3 * 3) + p2).toNat) rfl rfl
            refine go_smpq PM72 (L' := [some (.inr (.inr (some 0))), some (.inl p1), some (.inl p2), some (.inl p3), some (.inl p4), some (.inl ((p3 * 3) + p2))]) (st' := [.inl (dt5 52 (((p3 * 3) + p2).toNat))]) (w' := (SH, dt5)) rfl rfl (s_iald (n := 12) (f := dt5 52) rfl ⟨by omega, by omega⟩) ?_
            refine go_retq PM72 (k := 0) (r := some (.inl (dt5 52 (((p3 * 3) + p2).toNat)))) (w1 := (SH, dt5)) rfl ?_
            exact ⟨dt5, rfl, hI6, hF8, (Or.inr ⟨_, rfl, trivial, ⟨by first | exact True.intro | with_reducible assumption | rfl | omega | trivial, by have eo_ : ((p3 * 3) + p2).toNat = 3 * p3.toNat + p2.toNat := (by omega); have e3_ : (3 + p2).toNat = 3 + p2.toNat := (by omega); unfold AFT; rw [← eo_, ← e3_]; (repeat (first | rw [if_pos (by omega)] | rw [if_neg (by omega)])); omega⟩⟩)⟩
          · refine go_swiq PM72 (v := 2) (p1 := 113) (lo := 0) (hi := 9) rfl c22 (by decide) rfl ?_
            refine go_toq PM72 (k := 4) (pc' := 122) (L' := [some (.inr (.inr (some 0))), some (.inl p1), some (.inl p2), some (.inl p3), some (.inl p4), some (.inl ((p3 * 3) + p2))]) (st' := [.inl ((p3 * 3) + p2), .inr (.inr (some 53))]) (w' := (SH, dt5)) rfl ?_
            have r25 : (-2147483648) ≤ dt5 53 (((p3 * 3) + p2).toNat) ∧ dt5 53 (((p3 * 3) + p2).toNat) ≤ 2147483647 := InvC_get hI6 53 (((p3 * 3) + p2).toNat) rfl rfl
            refine go_smpq PM72 (L' := [some (.inr (.inr (some 0))), some (.inl p1), some (.inl p2), some (.inl p3), some (.inl p4), some (.inl ((p3 * 3) + p2))]) (st' := [.inl (dt5 53 (((p3 * 3) + p2).toNat))]) (w' := (SH, dt5)) rfl rfl (s_iald (n := 12) (f := dt5 53) rfl ⟨by omega, by omega⟩) ?_
            refine go_retq PM72 (k := 0) (r := some (.inl (dt5 53 (((p3 * 3) + p2).toNat)))) (w1 := (SH, dt5)) rfl ?_
            exact ⟨dt5, rfl, hI6, hF8, (Or.inr ⟨_, rfl, trivial, ⟨by first | exact True.intro | with_reducible assumption | rfl | omega | trivial, by have eo_ : ((p3 * 3) + p2).toNat = 3 * p3.toNat + p2.toNat := (by omega); have e3_ : (3 + p2).toNat = 3 + p2.toNat := (by omega); unfold AFT; rw [← eo_, ← e3_]; (repeat (first | rw [if_pos (by omega)] | rw [if_neg (by omega)])); omega⟩⟩)⟩
          · refine go_swiq PM72 (v := 3) (p1 := 124) (lo := 0) (hi := 9) rfl c22 (by decide) rfl ?_
            refine go_toq PM72 (k := 4) (pc' := 133) (L' := [some (.inr (.inr (some 0))), some (.inl p1), some (.inl p2), some (.inl p3), some (.inl p4), some (.inl ((p3 * 3) + p2))]) (st' := [.inl ((p3 * 3) + p2), .inr (.inr (some 54))]) (w' := (SH, dt5)) rfl ?_
            have r26 : (-2147483648) ≤ dt5 54 (((p3 * 3) + p2).toNat) ∧ dt5 54 (((p3 * 3) + p2).toNat) ≤ 2147483647 := InvC_get hI6 54 (((p3 * 3) + p2).toNat) rfl rfl
            refine go_smpq PM72 (L' := [some (.inr (.inr (some 0))), some (.inl p1), some (.inl p2), some (.inl p3), some (.inl p4), some (.inl ((p3 * 3) + p2))]) (st' := [.inl (dt5 54 (((p3 * 3) + p2).toNat))]) (w' := (SH, dt5)) rfl rfl (s_iald (n := 12) (f := dt5 54) rfl ⟨by omega, by omega⟩) ?_
            refine go_retq PM72 (k := 0) (r := some (.inl (dt5 54 (((p3 * 3) + p2).toNat)))) (w1 := (SH, dt5)) rfl ?_
            exact ⟨dt5, rfl, hI6, hF8, (Or.inr ⟨_, rfl, trivial, ⟨by first | exact True.intro | with_reducible assumption | rfl | omega | trivial, by have eo_ : ((p3 * 3) + p2).toNat = 3 * p3.toNat + p2.toNat := (by omega); have e3_ : (3 + p2).toNat = 3 + p2.toNat := (by omega); unfold AFT; rw [← eo_, ← e3_]; (repeat (first | rw [if_pos (by omega)] | rw [if_neg (by omega)])); omega⟩⟩)⟩
          · refine go_swiq PM72 (v := 4) (p1 := 135) (lo := 0) (hi := 9) rfl c22 (by decide) rfl ?_
            refine go_toq PM72 (k := 4) (pc' := 144) (L' := [some (.inr (.inr (some 0))), some (.inl p1), some (.inl p2), some (.inl p3), some (.inl p4), some (.inl ((p3 * 3) + p2))]) (st' := [.inl ((p3 * 3) + p2), .inr (.inr (some 55))]) (w' := (SH, dt5)) rfl ?_
            have r27 : (-2147483648) ≤ dt5 55 (((p3 * 3) + p2).toNat) ∧ dt5 55 (((p3 * 3) + p2).toNat) ≤ 2147483647 := InvC_get hI6 55 (((p3 * 3) + p2).toNat) rfl rfl
            refine go_smpq PM72 (L' := [some (.inr (.inr (some 0))), some (.inl p1), some (.inl p2), some (.inl p3), some (.inl p4), some (.inl ((p3 * 3) + p2))]) (st' := [.inl (dt5 55 (((p3 * 3) + p2).toNat))]) (w' := (SH, dt5)) rfl rfl (s_iald (n := 12) (f := dt5 55) rfl ⟨by omega, by omega⟩) ?_
            refine go_retq PM72 (k := 0) (r := some (.inl (dt5 55 (((p3 * 3) + p2).toNat)))) (w1 := (SH, dt5)) rfl ?_
            exact ⟨dt5, rfl, hI6, hF8, (Or.inr ⟨_, rfl, trivial, ⟨by first | exact True.intro | with_reducible assumption | rfl | omega | trivial, by have eo_ : ((p3 * 3) + p2).toNat = 3 * p3.toNat + p2.toNat := (by omega); have e3_ : (3 + p2).toNat = 3 + p2.toNat := (by omega); unfold AFT; rw [← eo_, ← e3_]; (repeat (first | rw [if_pos (by omega)] | rw [if_neg (by omega)])); omega⟩⟩)⟩
          · refine go_swiq PM72 (v := 5) (p1 := 146) (lo := 0) (hi := 9) rfl c22 (by decide) rfl ?_
            refine go_toq PM72 (k := 4) (pc' := 154) (L' := [some (.inr (.inr (some 0))), some (.inl p1), some (.inl p2), some (.inl p3), some (.inl p4), some (.inl ((p3 * 3) + p2))]) (st' := [.inl p2, .inr (.inr (some 50))]) (w' := (SH, dt5)) rfl ?_
            have r28 : (-2147483648) ≤ dt5 50 (p2).toNat ∧ dt5 50 (p2).toNat ≤ 2147483647 := InvC_get hI6 50 (p2).toNat rfl rfl
            refine go_smpq PM72 (L' := [some (.inr (.inr (some 0))), some (.inl p1), some (.inl p2), some (.inl p3), some (.inl p4), some (.inl ((p3 * 3) + p2))]) (st' := [.inl (dt5 50 (p2).toNat)]) (w' := (SH, dt5)) rfl rfl (s_iald (n := 3) (f := dt5 50) rfl (by first | exact bndx h_p2 (by decide) (by decide) | exact ⟨by omega, by omega⟩)) ?_
            refine go_retq PM72 (k := 0) (r := some (.inl (dt5 50 (p2).toNat))) (w1 := (SH, dt5)) rfl ?_
            exact ⟨dt5, rfl, hI6, hF8, (Or.inr ⟨_, rfl, trivial, ⟨by first | exact True.intro | with_reducible assumption | rfl | omega | trivial, by have eo_ : ((p3 * 3) + p2).toNat = 3 * p3.toNat + p2.toNat := (by omega); have e3_ : (3 + p2).toNat = 3 + p2.toNat := (by omega); unfold AFT; rw [← eo_, ← e3_]; (repeat (first | rw [if_pos (by omega)] | rw [if_neg (by omega)])); omega⟩⟩)⟩
          · refine go_swiq PM72 (v := 6) (p1 := 156) (lo := 0) (hi := 9) rfl c22 (by decide) rfl ?_
            refine go_toq PM72 (k := 4) (pc' := 164) (L' := [some (.inr (.inr (some 0))), some (.inl p1), some (.inl p2), some (.inl p3), some (.inl p4), some (.inl ((p3 * 3) + p2))]) (st' := [.inl p2, .inr (.inr (some 51))]) (w' := (SH, dt5)) rfl ?_
            have r29 : (-2147483648) ≤ dt5 51 (p2).toNat ∧ dt5 51 (p2).toNat ≤ 2147483647 := InvC_get hI6 51 (p2).toNat rfl rfl
            refine go_smpq PM72 (L' := [some (.inr (.inr (some 0))), some (.inl p1), some (.inl p2), some (.inl p3), some (.inl p4), some (.inl ((p3 * 3) + p2))]) (st' := [.inl (dt5 51 (p2).toNat)]) (w' := (SH, dt5)) rfl rfl (s_iald (n := 6) (f := dt5 51) rfl (by first | exact bndx h_p2 (by decide) (by decide) | exact ⟨by omega, by omega⟩)) ?_
            refine go_retq PM72 (k := 0) (r := some (.inl (dt5 51 (p2).toNat))) (w1 := (SH, dt5)) rfl ?_
            exact ⟨dt5, rfl, hI6, hF8, (Or.inr ⟨_, rfl, trivial, ⟨by first | exact True.intro | with_reducible assumption | rfl | omega | trivial, by have eo_ : ((p3 * 3) + p2).toNat = 3 * p3.toNat + p2.toNat := (by omega); have e3_ : (3 + p2).toNat = 3 + p2.toNat := (by omega); unfold AFT; rw [← eo_, ← e3_]; (repeat (first | rw [if_pos (by omega)] | rw [if_neg (by omega)])); omega⟩⟩)⟩
          · refine go_swiq PM72 (v := 7) (p1 := 166) (lo := 0) (hi := 9) rfl c22 (by decide) rfl ?_
            refine go_toq PM72 (k := 6) (pc' := 176) (L' := [some (.inr (.inr (some 0))), some (.inl p1), some (.inl p2), some (.inl p3), some (.inl p4), some (.inl ((p3 * 3) + p2))]) (st' := [.inl (3 + p2), .inr (.inr (some 51))]) (w' := (SH, dt5)) rfl ?_
            have r30 : (-2147483648) ≤ dt5 51 ((3 + p2).toNat) ∧ dt5 51 ((3 + p2).toNat) ≤ 2147483647 := InvC_get hI6 51 ((3 + p2).toNat) rfl rfl
            refine go_smpq PM72 (L' := [some (.inr (.inr (some 0))), some (.inl p1), some (.inl p2), some (.inl p3), some (.inl p4), some (.inl ((p3 * 3) + p2))]) (st' := [.inl (dt5 51 ((3 + p2).toNat))]) (w' := (SH, dt5)) rfl rfl (s_iald (n := 6) (f := dt5 51) rfl ⟨by omega, by omega⟩) ?_
            refine go_retq PM72 (k := 0) (r := some (.inl (dt5 51 ((3 + p2).toNat)))) (w1 := (SH, dt5)) rfl ?_
            exact ⟨dt5, rfl, hI6, hF8, (Or.inr ⟨_, rfl, trivial, ⟨by first | exact True.intro | with_reducible assumption | rfl | omega | trivial, by have eo_ : ((p3 * 3) + p2).toNat = 3 * p3.toNat + p2.toNat := (by omega); have e3_ : (3 + p2).toNat = 3 + p2.toNat := (by omega); unfold AFT; rw [← eo_, ← e3_]; (repeat (first | rw [if_pos (by omega)] | rw [if_neg (by omega)])); omega⟩⟩)⟩
          · refine go_swiq PM72 (v := 8) (p1 := 178) (lo := 0) (hi := 9) rfl c22 (by decide) rfl ?_
            refine go_toq PM72 (k := 4) (pc' := 186) (L' := [some (.inr (.inr (some 0))), some (.inl p1), some (.inl p2), some (.inl p3), some (.inl p4), some (.inl ((p3 * 3) + p2))]) (st' := [.inl p2, .inr (.inr (some 48))]) (w' := (SH, dt5)) rfl ?_
            have r31 : (-2147483648) ≤ dt5 48 (p2).toNat ∧ dt5 48 (p2).toNat ≤ 2147483647 := InvC_get hI6 48 (p2).toNat rfl rfl
            refine go_smpq PM72 (L' := [some (.inr (.inr (some 0))), some (.inl p1), some (.inl p2), some (.inl p3), some (.inl p4), some (.inl ((p3 * 3) + p2))]) (st' := [.inl (dt5 48 (p2).toNat)]) (w' := (SH, dt5)) rfl rfl (s_iald (n := 3) (f := dt5 48) rfl (by first | exact bndx h_p2 (by decide) (by decide) | exact ⟨by omega, by omega⟩)) ?_
            refine go_retq PM72 (k := 0) (r := some (.inl (dt5 48 (p2).toNat))) (w1 := (SH, dt5)) rfl ?_
            exact ⟨dt5, rfl, hI6, hF8, (Or.inr ⟨_, rfl, trivial, ⟨by first | exact True.intro | with_reducible assumption | rfl | omega | trivial, by have eo_ : ((p3 * 3) + p2).toNat = 3 * p3.toNat + p2.toNat := (by omega); have e3_ : (3 + p2).toNat = 3 + p2.toNat := (by omega); unfold AFT; rw [← eo_, ← e3_]; (repeat (first | rw [if_pos (by omega)] | rw [if_neg (by omega)])); omega⟩⟩)⟩
          · refine go_swiq PM72 (v := 9) (p1 := 188) (lo := 0) (hi := 9) rfl c22 (by decide) rfl ?_
            refine go_toq PM72 (k := 4) (pc' := 196) (L' := [some (.inr (.inr (some 0))), some (.inl p1), some (.inl p2), some (.inl p3), some (.inl p4), some (.inl ((p3 * 3) + p2))]) (st' := [.inl p2, .inr (.inr (some 49))]) (w' := (SH, dt5)) rfl ?_
            have r32 : (-2147483648) ≤ dt5 49 (p2).toNat ∧ dt5 49 (p2).toNat ≤ 2147483647 := InvC_get hI6 49 (p2).toNat rfl rfl
            refine go_smpq PM72 (L' := [some (.inr (.inr (some 0))), some (.inl p1), some (.inl p2), some (.inl p3), some (.inl p4), some (.inl ((p3 * 3) + p2))]) (st' := [.inl (dt5 49 (p2).toNat)]) (w' := (SH, dt5)) rfl rfl (s_iald (n := 3) (f := dt5 49) rfl (by first | exact bndx h_p2 (by decide) (by decide) | exact ⟨by omega, by omega⟩)) ?_
            refine go_retq PM72 (k := 0) (r := some (.inl (dt5 49 (p2).toNat))) (w1 := (SH, dt5)) rfl ?_
            exact ⟨dt5, rfl, hI6, hF8, (Or.inr ⟨_, rfl, trivial, ⟨by first | exact True.intro | with_reducible assumption | rfl | omega | trivial, by have eo_ : ((p3 * 3) + p2).toNat = 3 * p3.toNat + p2.toNat := (by omega); have e3_ : (3 + p2).toNat = 3 + p2.toNat := (by omega); unfold AFT; rw [← eo_, ← e3_]; (repeat (first | rw [if_pos (by omega)] | rw [if_neg (by omega)])); omega⟩⟩)⟩
      · skip
        refine go_retq PM72 (k := 2) (r := some (.inl (-2))) (w1 := (SH, dt)) rfl ?_
        first | exact ⟨dt, rfl, hI, hF, (Or.inl ⟨rfl, by first | exact True.intro | with_reducible assumption | rfl | omega | trivial⟩)⟩ | exact ⟨dt, rfl, hI, hF, (Or.inr ⟨_, rfl, trivial, ⟨by first | exact True.intro | with_reducible assumption | rfl | omega | trivial, by have eo_ : ((p3 * 3) + p2).toNat = 3 * p3.toNat + p2.toNat := (by omega); have e3_ : (3 + p2).toNat = 3 + p2.toNat := (by omega); unfold AFT; rw [← eo_, ← e3_]; (repeat (first | rw [if_pos (by omega)] | rw [if_neg (by omega)])); omega⟩⟩)⟩
    · skip
      refine go_retq PM72 (k := 2) (r := some (.inl (-2))) (w1 := (SH, dt)) rfl ?_
      first | exact ⟨dt, rfl, hI, hF, (Or.inl ⟨rfl, by first | exact True.intro | with_reducible assumption | rfl | omega | trivial⟩)⟩ | exact ⟨dt, rfl, hI, hF, (Or.inr ⟨_, rfl, trivial, ⟨by first | exact True.intro | with_reducible assumption | rfl | omega | trivial, by have eo_ : ((p3 * 3) + p2).toNat = 3 * p3.toNat + p2.toNat := (by omega); have e3_ : (3 + p2).toNat = 3 + p2.toNat := (by omega); unfold AFT; rw [← eo_, ← e3_]; (repeat (first | rw [if_pos (by omega)] | rw [if_neg (by omega)])); omega⟩⟩)⟩
  · skip
    refine go_retq PM72 (k := 2) (r := some (.inl (-2))) (w1 := (SH, dt)) rfl ?_
    first | exact ⟨dt, rfl, hI, hF, (Or.inl ⟨rfl, by first | exact True.intro | with_reducible assumption | rfl | omega | trivial⟩)⟩ | exact ⟨dt, rfl, hI, hF, (Or.inr ⟨_, rfl, trivial, ⟨by first | exact True.intro | with_reducible assumption | rfl | omega | trivial, by have eo_ : ((p3 * 3) + p2).toNat = 3 * p3.toNat + p2.toNat := (by omega); have e3_ : (3 + p2).toNat = 3 + p2.toNat := (by omega); unfold AFT; rw [← eo_, ← e3_]; (repeat (first | rw [if_pos (by omega)] | rw [if_neg (by omega)])); omega⟩⟩)⟩
set_option maxRecDepth 20000 in
theorem sp_X6_after_w (L : Nat) (xs : Nat → Int32) (sio : Option Nat) (d : Nat) (dt : Nat → Nat → Int) (hI : InvC dt) (hM : MW (dt 80))  (p1 : Int) (h_p1 : (-2147483648) ≤ p1 ∧ p1 ≤ 2147483647) (p2 : Int) (h_p2 : (-2147483648) ≤ p2 ∧ p2 ≤ 2147483647) (p3 : Int) (h_p3 : (-2147483648) ≤ p3 ∧ p3 ≤ 2147483647) (p4 : Int) (h_p4 : (-2147483648) ≤ p4 ∧ p4 ≤ 2147483647)  : GO (am_XX L xs sio) (d + 5) 188 0 [some (.inr (.inr (some 79))), some (.inl p1), some (.inl p2), some (.inl p3), some (.inl p4)] [] (SH, dt) (fun r w2 => ∃ dt2 : Nat → Nat → Int, w2 = (SH, dt2) ∧ InvC dt2 ∧ Fr [88, 89, 90, 91, 92, 93, 94, 95, 96, 97, 98, 99, 100] dt dt2 ∧ ((r = some (.inl (-2)) ∧ (¬ ((0 ≤ p1 ∧ p1 ≤ 7) ∧ (0 ≤ p2 ∧ p2 ≤ 2) ∧ (0 ≤ p3 ∧ p3 ≤ 3) ∧ (0 ≤ p4 ∧ p4 ≤ 9)))) ∨ (∃ v : Int, r = some (.inl v) ∧ True ∧ ((0 ≤ p1 ∧ p1 ≤ 7) ∧ (0 ≤ p2 ∧ p2 ≤ 2) ∧ (0 ≤ p3 ∧ p3 ≤ 3) ∧ (0 ≤ p4 ∧ p4 ≤ 9)) ∧ (v = AFT (wend (dt 80) p1) p2.toNat p3.toNat p4)))) := by
  have hF : Fr [88, 89, 90, 91, 92, 93, 94, 95, 96, 97, 98, 99, 100] dt dt := Fr_refl
  refine go_toq PM188 (k := 1) (pc' := 1) (L' := [some (.inr (.inr (some 79))), some (.inl p1), some (.inl p2), some (.inl p3), some (.inl p4)]) (st' := [.inl p1]) (w' := (SH, dt)) rfl ?_
  refine go_callq PM188 PM185 (Q' := _) rfl rfl rfl rfl (sp_X6_isScene L xs sio (d + 3) dt hI  p1 (by first | exact h_p1 | exact bnd h_p1 (by decide) (by decide) | exact ⟨by omega, by omega⟩) ) ?_
  rintro _ _ ⟨rfl, h1⟩
  refine ⟨rfl, ?_⟩
  rcases h1 with ⟨rfl, h1⟩ | ⟨rfl, h1⟩
  · skip
    refine go_toq PM188 (k := 2) (pc' := 8) (L' := [some (.inr (.inr (some 79))), some (.inl p1), some (.inl p2), some (.inl p3), some (.inl p4)]) (st' := [.inl p2]) (w' := (SH, dt)) rfl ?_
    refine go_callq PM188 PM187 (Q' := _) rfl rfl rfl rfl (sp_X6_isThing L xs sio (d + 3) dt hI  p2 (by first | exact h_p2 | exact bnd h_p2 (by decide) (by decide) | exact ⟨by omega, by omega⟩) ) ?_
    rintro _ _ ⟨rfl, h2⟩
    refine ⟨rfl, ?_⟩
    rcases h2 with ⟨rfl, h2⟩ | ⟨rfl, h2⟩
    · skip
      refine go_toq PM188 (k := 4) (pc' := 19) (L' := [some (.inr (.inr (some 79))), some (.inl p1), some (.inl p2), some (.inl p3), some (.inl p4)]) (st' := [.inl 9, .inl 0, .inl p4]) (w' := (SH, dt)) rfl ?_
      refine go_callq PM188 PM146 (Q' := _) rfl rfl rfl rfl (sp_X6_isIn L xs sio (d + 4) dt hI  p4 (by first | exact h_p4 | exact bnd h_p4 (by decide) (by decide) | exact ⟨by omega, by omega⟩) 0 ⟨by decide, by decide⟩ 9 ⟨by decide, by decide⟩ ) ?_
      rintro _ _ ⟨rfl, h3⟩
      refine ⟨rfl, ?_⟩
      rcases h3 with ⟨rfl, h3⟩ | ⟨rfl, h3⟩
      · skip
        refine go_toq PM188 (k := 2) (pc' := 26) (L' := [some (.inr (.inr (some 79))), some (.inl p1), some (.inl p2), some (.inl p3), some (.inl p4)]) (st' := [.inl p3]) (w' := (SH, dt)) rfl ?_
        refine go_callq PM188 PM186 (Q' := _) rfl rfl rfl rfl (sp_X6_isWho L xs sio (d + 3) dt hI  p3 (by first | exact h_p3 | exact bnd h_p3 (by decide) (by decide) | exact ⟨by omega, by omega⟩) ) ?_
        rintro _ _ ⟨rfl, h4⟩
        refine ⟨rfl, ?_⟩
        rcases h4 with ⟨rfl, h4⟩ | ⟨rfl, h4⟩
        · skip
          refine go_toq PM188 (k := 3) (pc' := 37) (L' := [some (.inr (.inr (some 79))), some (.inl p1), some (.inl p2), some (.inl p3), some (.inl p4)]) (st' := [.inl p1, .inr (.inr (some 79))]) (w' := (SH, dt)) rfl ?_
          refine go_callq PM188 PM184 (Q' := _) rfl rfl rfl rfl (sp_X6_goes_w L xs sio (d + 0) dt hI hM  p1 (by first | exact h_p1 | exact bnd h_p1 (by decide) (by decide) | exact ⟨by omega, by omega⟩) ) ?_
          rintro _ _ ⟨dt6, rfl, hI7, hF8, h5⟩
          refine ⟨rfl, ?_⟩
          have hF9 : Fr [88, 89, 90, 91, 92, 93, 94, 95, 96, 97, 98, 99, 100] dt dt6 := Fr_tr hF hF8 (by decide)
          rcases h5 with ⟨rfl, h5⟩
          have rd10 : wend (dt 80) p1 3 p2.toNat = dt6 92 p2.toNat := by rw [← h5]; exact VR_r (f := 3) (by decide) (show p2.toNat < 3 by omega)
          have rd11 : wend (dt 80) p1 8 ((3 * p3) + p2).toNat = dt6 96 ((3 * p3) + p2).toNat := by rw [← h5]; exact VR_r (f := 8) (by decide) (show ((3 * p3) + p2).toNat < 12 by omega)
          have rd12 : wend (dt 80) p1 9 ((3 * p3) + p2).toNat = dt6 97 ((3 * p3) + p2).toNat := by rw [← h5]; exact VR_r (f := 9) (by decide) (show ((3 * p3) + p2).toNat < 12 by omega)
          have rd13 : wend (dt 80) p1 10 ((3 * p3) + p2).toNat = dt6 98 ((3 * p3) + p2).toNat := by rw [← h5]; exact VR_r (f := 10) (by decide) (show ((3 * p3) + p2).toNat < 12 by omega)
          have rd14 : wend (dt 80) p1 11 ((3 * p3) + p2).toNat = dt6 90 ((3 * p3) + p2).toNat := by rw [← h5]; exact VR_r (f := 11) (by decide) (show ((3 * p3) + p2).toNat < 12 by omega)
          have rd15 : wend (dt 80) p1 6 p2.toNat = dt6 93 p2.toNat := by rw [← h5]; exact VR_r (f := 6) (by decide) (show p2.toNat < 3 by omega)
          have rd16 : wend (dt 80) p1 7 p2.toNat = dt6 100 p2.toNat := by rw [← h5]; exact VR_r (f := 7) (by decide) (show p2.toNat < 6 by omega)
          have rd17 : wend (dt 80) p1 7 (3 + p2).toNat = dt6 100 (3 + p2).toNat := by rw [← h5]; exact VR_r (f := 7) (by decide) (show (3 + p2).toNat < 6 by omega)
          have rd18 : wend (dt 80) p1 4 p2.toNat = dt6 94 p2.toNat := by rw [← h5]; exact VR_r (f := 4) (by decide) (show p2.toNat < 3 by omega)
          have rd19 : wend (dt 80) p1 5 p2.toNat = dt6 95 p2.toNat := by rw [← h5]; exact VR_r (f := 5) (by decide) (show p2.toNat < 3 by omega)
          have hok_ := WOK_pl hM (k := p1.toNat) (by omega) (dt 80 (6 + p1).toNat).toNat (by have := MW_am hM p1 ⟨by omega, by omega⟩; omega)
          have r20 := wr_RR p4
          refine go_toq PM188 (k := 1) (pc' := 42) (L' := [some (.inr (.inr (some 79))), some (.inl p1), some (.inl p2), some (.inl p3), some (.inl p4)]) (st' := [.inl p4]) (w' := (SH, dt6)) rfl ?_
          have e22 : wr p4 = p4 := wr_R ⟨by omega, by omega⟩
          by_cases c21 : wr p4 < 0 ∨ 8 < wr p4
          · refine go_swoq PM188 (p1 := 181) (lo := 0) (hi := 8) rfl rfl c21 ?_
            refine go_toq PM188 (k := 3) (pc' := 186) (L' := [some (.inr (.inr (some 79))), some (.inl p1), some (.inl p2), some (.inl p3), some (.inl p4)]) (st' := [.inl p2, .inr (.inr (some 95))]) (w' := (SH, dt6)) rfl ?_
            have r23 : (-2147483648) ≤ dt6 95 (p2).toNat ∧ dt6 95 (p2).toNat ≤ 2147483647 := InvC_get hI7 95 (p2).toNat rfl rfl
            refine go_smpq PM188 (L' := [some (.inr (.inr (some 79))), some (.inl p1), some (.inl p2), some (.inl p3), some (.inl p4)]) (st' := [.inl (dt6 95 (p2).toNat)]) (w' := (SH, dt6)) rfl rfl (s_iald (n := 3) (f := dt6 95) rfl (by first | exact bndx h_p2 (by decide) (by decide) | exact ⟨by omega, by omega⟩)) ?_
            refine go_retq PM188 (k := 0) (r := some (.inl (dt6 95 (p2).toNat))) (w1 := (SH, dt6)) rfl ?_
            exact ⟨dt6, rfl, hI7, hF9, (Or.inr ⟨_, rfl, trivial, ⟨by first | exact True.intro | with_reducible assumption | rfl | omega | trivial, by have eo_ : ((3 * p3) + p2).toNat = 3 * p3.toNat + p2.toNat := (by omega); have e3_ : (3 + p2).toNat = 3 + p2.toNat := (by omega); unfold AFT; rw [← eo_, ← e3_]; (repeat (first | rw [if_pos (by omega)] | rw [if_neg (by omega)])); omega⟩⟩)⟩
          · have c24 : wr p4 = 0 ∨ wr p4 = 1 ∨ wr p4 = 2 ∨ wr p4 = 3 ∨ wr p4 = 4 ∨ wr p4 = 5 ∨ wr p4 = 6 ∨ wr p4 = 7 ∨ wr p4 = 8 := by omega
            rcases c24 with c24 | c24 | c24 | c24 | c24 | c24 | c24 | c24 | c24
            · refine go_swiq PM188 (v := 0) (p1 := 92) (lo := 0) (hi := 8) rfl c24 (by decide) rfl ?_
              refine go_toq PM188 (k := 3) (pc' := 97) (L' := [some (.inr (.inr (some 79))), some (.inl p1), some (.inl p2), some (.inl p3), some (.inl p4)]) (st' := [.inl p2, .inr (.inr (some 92))]) (w' := (SH, dt6)) rfl ?_
              have r25 : (-2147483648) ≤ dt6 92 (p2).toNat ∧ dt6 92 (p2).toNat ≤ 2147483647 := InvC_get hI7 92 (p2).toNat rfl rfl
              refine go_smpq PM188 (L' := [some (.inr (.inr (some 79))), some (.inl p1), some (.inl p2), some (.inl p3), some (.inl p4)]) (st' := [.inl (dt6 92 (p2).toNat)]) (w' := (SH, dt6)) rfl rfl (s_iald (n := 3) (f := dt6 92) rfl (by first | exact bndx h_p2 (by decide) (by decide) | exact ⟨by omega, by omega⟩)) ?_
              refine go_retq PM188 (k := 0) (r := some (.inl (dt6 92 (p2).toNat))) (w1 := (SH, dt6)) rfl ?_
              exact ⟨dt6, rfl, hI7, hF9, (Or.inr ⟨_, rfl, trivial, ⟨by first | exact True.intro | with_reducible assumption | rfl | omega | trivial, by have eo_ : ((3 * p3) + p2).toNat = 3 * p3.toNat + p2.toNat := (by omega); have e3_ : (3 + p2).toNat = 3 + p2.toNat := (by omega); unfold AFT; rw [← eo_, ← e3_]; (repeat (first | rw [if_pos (by omega)] | rw [if_neg (by omega)])); omega⟩⟩)⟩
            · refine go_swiq PM188 (v := 1) (p1 := 99) (lo := 0) (hi := 8) rfl c24 (by decide) rfl ?_
              refine go_toq PM188 (k := 7) (pc' := 108) (L' := [some (.inr (.inr (some 79))), some (.inl p1), some (.inl p2), some (.inl p3), some (.inl p4)]) (st' := [.inl ((3 * p3) + p2), .inr (.inr (some 96))]) (w' := (SH, dt6)) rfl ?_
              have r26 : (-2147483648) ≤ dt6 96 (((3 * p3) + p2).toNat) ∧ dt6 96 (((3 * p3) + p2).toNat) ≤ 2147483647 := InvC_get hI7 96 (((3 * p3) + p2).toNat) rfl rfl
              refine go_smpq PM188 (L' := [some (.inr (.inr (some 79))), some (.inl p1), some (.inl p2), some (.inl p3), some (.inl p4)]) (st' := [.inl (dt6 96 (((3 * p3) + p2).toNat))]) (w' := (SH, dt6)) rfl rfl (s_iald (n := 12) (f := dt6 96) rfl ⟨by omega, by omega⟩) ?_
              refine go_retq PM188 (k := 0) (r := some (.inl (dt6 96 (((3 * p3) + p2).toNat)))) (w1 := (SH, dt6)) rfl ?_
              exact ⟨dt6, rfl, hI7, hF9, (Or.inr ⟨_, rfl, trivial, ⟨by first | exact True.intro | with_reducible assumption | rfl | omega | trivial, by have eo_ : ((3 * p3) + p2).toNat = 3 * p3.toNat + p2.toNat := (by omega); have e3_ : (3 + p2).toNat = 3 + p2.toNat := (by omega); unfold AFT; rw [← eo_, ← e3_]; (repeat (first | rw [if_pos (by omega)] | rw [if_neg (by omega)])); omega⟩⟩)⟩
            · refine go_swiq PM188 (v := 2) (p1 := 110) (lo := 0) (hi := 8) rfl c24 (by decide) rfl ?_
              refine go_toq PM188 (k := 7) (pc' := 119) (L' := [some (.inr (.inr (some 79))), some (.inl p1), some (.inl p2), some (.inl p3), some (.inl p4)]) (st' := [.inl ((3 * p3) + p2), .inr (.inr (some 97))]) (w' := (SH, dt6)) rfl ?_
              have r27 : (-2147483648) ≤ dt6 97 (((3 * p3) + p2).toNat) ∧ dt6 97 (((3 * p3) + p2).toNat) ≤ 2147483647 := InvC_get hI7 97 (((3 * p3) + p2).toNat) rfl rfl
              refine go_smpq PM188 (L' := [some (.inr (.inr (some 79))), some (.inl p1), some (.inl p2), some (.inl p3), some (.inl p4)]) (st' := [.inl (dt6 97 (((3 * p3) + p2).toNat))]) (w' := (SH, dt6)) rfl rfl (s_iald (n := 12) (f := dt6 97) rfl ⟨by omega, by omega⟩) ?_
              refine go_retq PM188 (k := 0) (r := some (.inl (dt6 97 (((3 * p3) + p2).toNat)))) (w1 := (SH, dt6)) rfl ?_
              exact ⟨dt6, rfl, hI7, hF9, (Or.inr ⟨_, rfl, trivial, ⟨by first | exact True.intro | with_reducible assumption | rfl | omega | trivial, by have eo_ : ((3 * p3) + p2).toNat = 3 * p3.toNat + p2.toNat := (by omega); have e3_ : (3 + p2).toNat = 3 + p2.toNat := (by omega); unfold AFT; rw [← eo_, ← e3_]; (repeat (first | rw [if_pos (by omega)] | rw [if_neg (by omega)])); omega⟩⟩)⟩
            · refine go_swiq PM188 (v := 3) (p1 := 121) (lo := 0) (hi := 8) rfl c24 (by decide) rfl ?_
              refine go_toq PM188 (k := 7) (pc' := 130) (L' := [some (.inr (.inr (some 79))), some (.inl p1), some (.inl p2), some (.inl p3), some (.inl p4)]) (st' := [.inl ((3 * p3) + p2), .inr (.inr (some 98))]) (w' := (SH, dt6)) rfl ?_
              have r28 : (-2147483648) ≤ dt6 98 (((3 * p3) + p2).toNat) ∧ dt6 98 (((3 * p3) + p2).toNat) ≤ 2147483647 := InvC_get hI7 98 (((3 * p3) + p2).toNat) rfl rfl
              refine go_smpq PM188 (L' := [some (.inr (.inr (some 79))), some (.inl p1), some (.inl p2), some (.inl p3), some (.inl p4)]) (st' := [.inl (dt6 98 (((3 * p3) + p2).toNat))]) (w' := (SH, dt6)) rfl rfl (s_iald (n := 12) (f := dt6 98) rfl ⟨by omega, by omega⟩) ?_
              refine go_retq PM188 (k := 0) (r := some (.inl (dt6 98 (((3 * p3) + p2).toNat)))) (w1 := (SH, dt6)) rfl ?_
              exact ⟨dt6, rfl, hI7, hF9, (Or.inr ⟨_, rfl, trivial, ⟨by first | exact True.intro | with_reducible assumption | rfl | omega | trivial, by have eo_ : ((3 * p3) + p2).toNat = 3 * p3.toNat + p2.toNat := (by omega); have e3_ : (3 + p2).toNat = 3 + p2.toNat := (by omega); unfold AFT; rw [← eo_, ← e3_]; (repeat (first | rw [if_pos (by omega)] | rw [if_neg (by omega)])); omega⟩⟩)⟩
            · refine go_swiq PM188 (v := 4) (p1 := 132) (lo := 0) (hi := 8) rfl c24 (by decide) rfl ?_
              refine go_toq PM188 (k := 7) (pc' := 141) (L' := [some (.inr (.inr (some 79))), some (.inl p1), some (.inl p2), some (.inl p3), some (.inl p4)]) (st' := [.inl ((3 * p3) + p2), .inr (.inr (some 90))]) (w' := (SH, dt6)) rfl ?_
              have r29 : 0 ≤ dt6 90 (((3 * p3) + p2).toNat) ∧ dt6 90 (((3 * p3) + p2).toNat) ≤ 1 := InvC_get hI7 90 (((3 * p3) + p2).toNat) rfl rfl
              refine go_smpq PM188 (L' := [some (.inr (.inr (some 79))), some (.inl p1), some (.inl p2), some (.inl p3), some (.inl p4)]) (st' := [.inl (dt6 90 (((3 * p3) + p2).toNat))]) (w' := (SH, dt6)) rfl rfl (s_zald (n := 12) (f := dt6 90) rfl ⟨by omega, by omega⟩) ?_
              refine go_ifq PM188 (k := 0) (p1 := 149) (p2 := 145) (L' := [some (.inr (.inr (some 79))), some (.inl p1), some (.inl p2), some (.inl p3), some (.inl p4)]) (st' := []) (w' := (SH, dt6)) rfl (z_eq (a := dt6 90 (((3 * p3) + p2).toNat)) (by first | exact bnd r29 (by decide) (by decide) | exact ⟨by omega, by omega⟩)) (fun c30 => ?_) (fun c30 => ?_)
              · skip
                refine go_retq PM188 (k := 1) (r := some (.inl 0)) (w1 := (SH, dt6)) rfl ?_
                exact ⟨dt6, rfl, hI7, hF9, (Or.inr ⟨_, rfl, trivial, ⟨by first | exact True.intro | with_reducible assumption | rfl | omega | trivial, by have eo_ : ((3 * p3) + p2).toNat = 3 * p3.toNat + p2.toNat := (by omega); have e3_ : (3 + p2).toNat = 3 + p2.toNat := (by omega); unfold AFT; rw [← eo_, ← e3_]; (repeat (first | rw [if_pos (by omega)] | rw [if_neg (by omega)])); omega⟩⟩)⟩
              · skip
                have qc30 : 1 ≤ dt6 90 (((3 * p3) + p2).toNat) := by omega
                replace c30 := hid c30
                refine go_retq PM188 (k := 2) (r := some (.inl 1)) (w1 := (SH, dt6)) rfl ?_
                exact ⟨dt6, rfl, hI7, hF9, (Or.inr ⟨_, rfl, trivial, ⟨by first | exact True.intro | with_reducible assumption | exact unhid (by with_reducible assumption) | rfl | (first | omega | (have z0_ := unhid c30; omega)) | trivial, by have eo_ : ((3 * p3) + p2).toNat = 3 * p3.toNat + p2.toNat := (by (first | omega | (have z0_ := unhid c30; omega))); have e3_ : (3 + p2).toNat = 3 + p2.toNat := (by (first | omega | (have z0_ := unhid c30; omega))); unfold AFT; rw [← eo_, ← e3_]; (repeat (first | rw [if_pos (by (first | omega | (have z0_ := unhid c30; omega)))] | rw [if_neg (by (first | omega | (have z0_ := unhid c30; omega)))])); (first | omega | (have z0_ := unhid c30; omega))⟩⟩)⟩
            · refine go_swiq PM188 (v := 5) (p1 := 151) (lo := 0) (hi := 8) rfl c24 (by decide) rfl ?_
              refine go_toq PM188 (k := 3) (pc' := 156) (L' := [some (.inr (.inr (some 79))), some (.inl p1), some (.inl p2), some (.inl p3), some (.inl p4)]) (st' := [.inl p2, .inr (.inr (some 93))]) (w' := (SH, dt6)) rfl ?_
              have r31 : (-2147483648) ≤ dt6 93 (p2).toNat ∧ dt6 93 (p2).toNat ≤ 2147483647 := InvC_get hI7 93 (p2).toNat rfl rfl
              refine go_smpq PM188 (L' := [some (.inr (.inr (some 79))), some (.inl p1), some (.inl p2), some (.inl p3), some (.inl p4)]) (st' := [.inl (dt6 93 (p2).toNat)]) (w' := (SH, dt6)) rfl rfl (s_iald (n := 3) (f := dt6 93) rfl (by first | exact bndx h_p2 (by decide) (by decide) | exact ⟨by omega, by omega⟩)) ?_
              refine go_retq PM188 (k := 0) (r := some (.inl (dt6 93 (p2).toNat))) (w1 := (SH, dt6)) rfl ?_
              exact ⟨dt6, rfl, hI7, hF9, (Or.inr ⟨_, rfl, trivial, ⟨by first | exact True.intro | with_reducible assumption | rfl | omega | trivial, by have eo_ : ((3 * p3) + p2).toNat = 3 * p3.toNat + p2.toNat := (by omega); have e3_ : (3 + p2).toNat = 3 + p2.toNat := (by omega); unfold AFT; rw [← eo_, ← e3_]; (repeat (first | rw [if_pos (by omega)] | rw [if_neg (by omega)])); omega⟩⟩)⟩
            · refine go_swiq PM188 (v := 6) (p1 := 158) (lo := 0) (hi := 8) rfl c24 (by decide) rfl ?_
              refine go_toq PM188 (k := 3) (pc' := 163) (L' := [some (.inr (.inr (some 79))), some (.inl p1), some (.inl p2), some (.inl p3), some (.inl p4)]) (st' := [.inl p2, .inr (.inr (some 100))]) (w' := (SH, dt6)) rfl ?_
              have r32 : (-2147483648) ≤ dt6 100 (p2).toNat ∧ dt6 100 (p2).toNat ≤ 2147483647 := InvC_get hI7 100 (p2).toNat rfl rfl
              refine go_smpq PM188 (L' := [some (.inr (.inr (some 79))), some (.inl p1), some (.inl p2), some (.inl p3), some (.inl p4)]) (st' := [.inl (dt6 100 (p2).toNat)]) (w' := (SH, dt6)) rfl rfl (s_iald (n := 6) (f := dt6 100) rfl (by first | exact bndx h_p2 (by decide) (by decide) | exact ⟨by omega, by omega⟩)) ?_
              refine go_retq PM188 (k := 0) (r := some (.inl (dt6 100 (p2).toNat))) (w1 := (SH, dt6)) rfl ?_
              exact ⟨dt6, rfl, hI7, hF9, (Or.inr ⟨_, rfl, trivial, ⟨by first | exact True.intro | with_reducible assumption | rfl | omega | trivial, by have eo_ : ((3 * p3) + p2).toNat = 3 * p3.toNat + p2.toNat := (by omega); have e3_ : (3 + p2).toNat = 3 + p2.toNat := (by omega); unfold AFT; rw [← eo_, ← e3_]; (repeat (first | rw [if_pos (by omega)] | rw [if_neg (by omega)])); omega⟩⟩)⟩
            · refine go_swiq PM188 (v := 7) (p1 := 165) (lo := 0) (hi := 8) rfl c24 (by decide) rfl ?_
              refine go_toq PM188 (k := 5) (pc' := 172) (L' := [some (.inr (.inr (some 79))), some (.inl p1), some (.inl p2), some (.inl p3), some (.inl p4)]) (st' := [.inl (3 + p2), .inr (.inr (some 100))]) (w' := (SH, dt6)) rfl ?_
              have r33 : (-2147483648) ≤ dt6 100 ((3 + p2).toNat) ∧ dt6 100 ((3 + p2).toNat) ≤ 2147483647 := InvC_get hI7 100 ((3 + p2).toNat) rfl rfl
              refine go_smpq PM188 (L' := [some (.inr (.inr (some 79))), some (.inl p1), some (.inl p2), some (.inl p3), some (.inl p4)]) (st' := [.inl (dt6 100 ((3 + p2).toNat))]) (w' := (SH, dt6)) rfl rfl (s_iald (n := 6) (f := dt6 100) rfl ⟨by omega, by omega⟩) ?_
              refine go_retq PM188 (k := 0) (r := some (.inl (dt6 100 ((3 + p2).toNat)))) (w1 := (SH, dt6)) rfl ?_
              exact ⟨dt6, rfl, hI7, hF9, (Or.inr ⟨_, rfl, trivial, ⟨by first | exact True.intro | with_reducible assumption | rfl | omega | trivial, by have eo_ : ((3 * p3) + p2).toNat = 3 * p3.toNat + p2.toNat := (by omega); have e3_ : (3 + p2).toNat = 3 + p2.toNat := (by omega); unfold AFT; rw [← eo_, ← e3_]; (repeat (first | rw [if_pos (by omega)] | rw [if_neg (by omega)])); omega⟩⟩)⟩
            · refine go_swiq PM188 (v := 8) (p1 := 174) (lo := 0) (hi := 8) rfl c24 (by decide) rfl ?_
              refine go_toq PM188 (k := 3) (pc' := 179) (L' := [some (.inr (.inr (some 79))), some (.inl p1), some (.inl p2), some (.inl p3), some (.inl p4)]) (st' := [.inl p2, .inr (.inr (some 94))]) (w' := (SH, dt6)) rfl ?_
              have r34 : (-2147483648) ≤ dt6 94 (p2).toNat ∧ dt6 94 (p2).toNat ≤ 2147483647 := InvC_get hI7 94 (p2).toNat rfl rfl
              refine go_smpq PM188 (L' := [some (.inr (.inr (some 79))), some (.inl p1), some (.inl p2), some (.inl p3), some (.inl p4)]) (st' := [.inl (dt6 94 (p2).toNat)]) (w' := (SH, dt6)) rfl rfl (s_iald (n := 3) (f := dt6 94) rfl (by first | exact bndx h_p2 (by decide) (by decide) | exact ⟨by omega, by omega⟩)) ?_
              refine go_retq PM188 (k := 0) (r := some (.inl (dt6 94 (p2).toNat))) (w1 := (SH, dt6)) rfl ?_
              exact ⟨dt6, rfl, hI7, hF9, (Or.inr ⟨_, rfl, trivial, ⟨by first | exact True.intro | with_reducible assumption | rfl | omega | trivial, by have eo_ : ((3 * p3) + p2).toNat = 3 * p3.toNat + p2.toNat := (by omega); have e3_ : (3 + p2).toNat = 3 + p2.toNat := (by omega); unfold AFT; rw [← eo_, ← e3_]; (repeat (first | rw [if_pos (by omega)] | rw [if_neg (by omega)])); omega⟩⟩)⟩
        · skip
          refine go_retq PM188 (k := 2) (r := some (.inl (-2))) (w1 := (SH, dt)) rfl ?_
          first | exact ⟨dt, rfl, hI, hF, (Or.inl ⟨rfl, by first | exact True.intro | with_reducible assumption | rfl | omega | trivial⟩)⟩ | exact ⟨dt, rfl, hI, hF, (Or.inr ⟨_, rfl, trivial, ⟨by first | exact True.intro | with_reducible assumption | rfl | omega | trivial, by have eo_ : ((3 * p3) + p2).toNat = 3 * p3.toNat + p2.toNat := (by omega); have e3_ : (3 + p2).toNat = 3 + p2.toNat := (by omega); unfold AFT; rw [← eo_, ← e3_]; (repeat (first | rw [if_pos (by omega)] | rw [if_neg (by omega)])); omega⟩⟩)⟩
      · skip
        refine go_retq PM188 (k := 2) (r := some (.inl (-2))) (w1 := (SH, dt)) rfl ?_
        first | exact ⟨dt, rfl, hI, hF, (Or.inl ⟨rfl, by first | exact True.intro | with_reducible assumption | rfl | omega | trivial⟩)⟩ | exact ⟨dt, rfl, hI, hF, (Or.inr ⟨_, rfl, trivial, ⟨by first | exact True.intro | with_reducible assumption | rfl | omega | trivial, by have eo_ : ((3 * p3) + p2).toNat = 3 * p3.toNat + p2.toNat := (by omega); have e3_ : (3 + p2).toNat = 3 + p2.toNat := (by omega); unfold AFT; rw [← eo_, ← e3_]; (repeat (first | rw [if_pos (by omega)] | rw [if_neg (by omega)])); omega⟩⟩)⟩
    · skip
      refine go_retq PM188 (k := 2) (r := some (.inl (-2))) (w1 := (SH, dt)) rfl ?_
      first | exact ⟨dt, rfl, hI, hF, (Or.inl ⟨rfl, by first | exact True.intro | with_reducible assumption | rfl | omega | trivial⟩)⟩ | exact ⟨dt, rfl, hI, hF, (Or.inr ⟨_, rfl, trivial, ⟨by first | exact True.intro | with_reducible assumption | rfl | omega | trivial, by have eo_ : ((3 * p3) + p2).toNat = 3 * p3.toNat + p2.toNat := (by omega); have e3_ : (3 + p2).toNat = 3 + p2.toNat := (by omega); unfold AFT; rw [← eo_, ← e3_]; (repeat (first | rw [if_pos (by omega)] | rw [if_neg (by omega)])); omega⟩⟩)⟩
  · skip
    refine go_retq PM188 (k := 2) (r := some (.inl (-2))) (w1 := (SH, dt)) rfl ?_
    first | exact ⟨dt, rfl, hI, hF, (Or.inl ⟨rfl, by first | exact True.intro | with_reducible assumption | rfl | omega | trivial⟩)⟩ | exact ⟨dt, rfl, hI, hF, (Or.inr ⟨_, rfl, trivial, ⟨by first | exact True.intro | with_reducible assumption | rfl | omega | trivial, by have eo_ : ((3 * p3) + p2).toNat = 3 * p3.toNat + p2.toNat := (by omega); have e3_ : (3 + p2).toNat = 3 + p2.toNat := (by omega); unfold AFT; rw [← eo_, ← e3_]; (repeat (first | rw [if_pos (by omega)] | rw [if_neg (by omega)])); omega⟩⟩)⟩
theorem sp_X5_thinks_w (L : Nat) (xs : Nat → Int32) (sio : Option Nat) (d : Nat) (dt : Nat → Nat → Int) (hI : InvC dt) (hM : MW (dt 80))  (p1 : Int) (h_p1 : (-2147483648) ≤ p1 ∧ p1 ≤ 2147483647) (p2 : Int) (h_p2 : (-2147483648) ≤ p2 ∧ p2 ≤ 2147483647) (p3 : Int) (h_p3 : (-2147483648) ≤ p3 ∧ p3 ≤ 2147483647) (p4 : Int) (h_p4 : (-2147483648) ≤ p4 ∧ p4 ≤ 2147483647) (h_p0 : SCL (dt 2) (dt 3) (dt 80)) : GO (am_XX L xs sio) (d + 5) 73 0 [some (.inr (.inr (some 0))), some (.inl p1), some (.inl p2), some (.inl p3), some (.inl p4)] [] (SH, dt) (fun r w2 => ∃ dt2 : Nat → Nat → Int, w2 = (SH, dt2) ∧ InvC dt2 ∧ Fr [44, 45, 46, 47, 48, 49, 50, 51, 52, 53, 54, 55, 56] dt dt2 ∧ ((r = some (.inl (-2)) ∧ (¬ ((0 ≤ p1 ∧ p1 ≤ 7) ∧ (0 ≤ p2 ∧ p2 ≤ 3) ∧ (0 ≤ p3 ∧ p3 ≤ 3) ∧ ¬ p2 = p3 ∧ (0 ≤ p4 ∧ p4 ≤ 2)))) ∨ (∃ v : Int, r = some (.inl v) ∧ True ∧ ((0 ≤ p1 ∧ p1 ≤ 7) ∧ (0 ≤ p2 ∧ p2 ≤ 3) ∧ (0 ≤ p3 ∧ p3 ≤ 3) ∧ ¬ p2 = p3 ∧ (0 ≤ p4 ∧ p4 ≤ 2)) ∧ (v = wend (dt 80) p1 12 (12 * p2.toNat + 3 * p3.toNat + p4.toNat))))) := by
  have hF : Fr [44, 45, 46, 47, 48, 49, 50, 51, 52, 53, 54, 55, 56] dt dt := Fr_refl
  refine go_toq PM73 (k := 1) (pc' := 1) (L' := [some (.inr (.inr (some 0))), some (.inl p1), some (.inl p2), some (.inl p3), some (.inl p4)]) (st' := [.inl p1]) (w' := (SH, dt)) rfl ?_
  refine go_callq PM73 PM102 (Q' := _) rfl rfl rfl rfl (sp_X5_isScene L xs sio (d + 3) dt hI  p1 (by first | exact h_p1 | exact bnd h_p1 (by decide) (by decide) | exact ⟨by omega, by omega⟩) ) ?_
  rintro _ _ ⟨rfl, h1⟩
  refine ⟨rfl, ?_⟩
  rcases h1 with ⟨rfl, h1⟩ | ⟨rfl, h1⟩
  · skip
    refine go_toq PM73 (k := 2) (pc' := 8) (L' := [some (.inr (.inr (some 0))), some (.inl p1), some (.inl p2), some (.inl p3), some (.inl p4)]) (st' := [.inl p2]) (w' := (SH, dt)) rfl ?_
    refine go_callq PM73 PM105 (Q' := _) rfl rfl rfl rfl (sp_X5_isWho L xs sio (d + 3) dt hI  p2 (by first | exact h_p2 | exact bnd h_p2 (by decide) (by decide) | exact ⟨by omega, by omega⟩) ) ?_
    rintro _ _ ⟨rfl, h2⟩
    refine ⟨rfl, ?_⟩
    rcases h2 with ⟨rfl, h2⟩ | ⟨rfl, h2⟩
    · skip
      refine go_toq PM73 (k := 2) (pc' := 15) (L' := [some (.inr (.inr (some 0))), some (.inl p1), some (.inl p2), some (.inl p3), some (.inl p4)]) (st' := [.inl p3]) (w' := (SH, dt)) rfl ?_
      refine go_callq PM73 PM105 (Q' := _) rfl rfl rfl rfl (sp_X5_isWho L xs sio (d + 3) dt hI  p3 (by first | exact h_p3 | exact bnd h_p3 (by decide) (by decide) | exact ⟨by omega, by omega⟩) ) ?_
      rintro _ _ ⟨rfl, h3⟩
      refine ⟨rfl, ?_⟩
      rcases h3 with ⟨rfl, h3⟩ | ⟨rfl, h3⟩
      · skip
        refine go_ifq PM73 (k := 3) (p1 := 34) (p2 := 26) (L' := [some (.inr (.inr (some 0))), some (.inl p1), some (.inl p2), some (.inl p3), some (.inl p4)]) (st' := []) (w' := (SH, dt)) rfl (c_eq (a := p2) (b := p3) (by first | exact bnd h_p2 (by decide) (by decide) | exact ⟨by omega, by omega⟩) (by first | exact bnd h_p3 (by decide) (by decide) | exact ⟨by omega, by omega⟩)) (fun c4 => ?_) (fun c4 => ?_)
        · skip
          refine go_retq PM73 (k := 1) (r := some (.inl (-2))) (w1 := (SH, dt)) rfl ?_
          first | exact ⟨dt, rfl, hI, hF, (Or.inl ⟨rfl, by first | exact True.intro | with_reducible assumption | rfl | omega | trivial⟩)⟩ | exact ⟨dt, rfl, hI, hF, (Or.inr ⟨_, rfl, trivial, ⟨by first | exact True.intro | with_reducible assumption | rfl | omega | trivial, by rw [show 12 * p2.toNat + 3 * p3.toNat + p4.toNat = ((((p2 * 4) + p3) * 3) + p4).toNat by first | with_reducible assumption | omega]; omega⟩⟩)⟩
        · skip
          replace c4 := hid c4
          refine go_toq PM73 (k := 1) (pc' := 28) (L' := [some (.inr (.inr (some 0))), some (.inl p1), some (.inl p2), some (.inl p3), some (.inl p4)]) (st' := [.inl p4]) (w' := (SH, dt)) rfl ?_
          refine go_callq PM73 PM104 (Q' := _) rfl rfl rfl rfl (sp_X5_isThing L xs sio (d + 3) dt hI  p4 (by first | exact h_p4 | exact bnd h_p4 (by decide) (by decide) | exact ⟨by (first | omega | (have z0_ := unhid c4; omega)), by (first | omega | (have z0_ := unhid c4; omega))⟩) ) ?_
          rintro _ _ ⟨rfl, h5⟩
          refine ⟨rfl, ?_⟩
          rcases h5 with ⟨rfl, h5⟩ | ⟨rfl, h5⟩
          · skip
            refine go_toq PM73 (k := 3) (pc' := 39) (L' := [some (.inr (.inr (some 0))), some (.inl p1), some (.inl p2), some (.inl p3), some (.inl p4)]) (st' := [.inl p1, .inr (.inr (some 0))]) (w' := (SH, dt)) rfl ?_
            refine go_callq PM73 PM113 (Q' := _) rfl rfl rfl rfl (sp_X5_play_w L xs sio (d + 0) dt hI hM  p1 (by first | exact h_p1 | exact bnd h_p1 (by decide) (by decide) | exact ⟨by (first | omega | (have z0_ := unhid c4; omega)), by (first | omega | (have z0_ := unhid c4; omega))⟩) (by first | exact True.intro | with_reducible assumption | exact unhid (by with_reducible assumption) | rfl | (first | omega | (have z0_ := unhid c4; omega)) | trivial | assumption)) ?_
            rintro _ _ ⟨dt7, rfl, hI8, hF9, h6⟩
            refine ⟨rfl, ?_⟩
            have hF10 : Fr [44, 45, 46, 47, 48, 49, 50, 51, 52, 53, 54, 55, 56] dt dt7 := Fr_tr hF hF9 (by decide)
            rcases h6 with ⟨rfl, h6⟩
            have rd11 : wend (dt 80) p1 12 ((((p2 * 4) + p3) * 3) + p4).toNat = dt7 56 ((((p2 * 4) + p3) * 3) + p4).toNat := by rw [← h6]; exact VC_r (f := 12) (by decide) (show ((((p2 * 4) + p3) * 3) + p4).toNat < 48 by (first | omega | (have z0_ := unhid c4; omega)))
            have hok_ := WOK_pl hM (k := p1.toNat) (by (first | omega | (have z0_ := unhid c4; omega))) (dt 80 (6 + p1).toNat).toNat (by have := MW_am hM p1 ⟨by (first | omega | (have z0_ := unhid c4; omega)), by (first | omega | (have z0_ := unhid c4; omega))⟩; (first | omega | (have z0_ := unhid c4; omega)))
            refine go_toq PM73 (k := 12) (pc' := 59) (L' := [some (.inr (.inr (some 0))), some (.inl p1), some (.inl p2), some (.inl p3), some (.inl p4)]) (st' := [.inl ((((p2 * 4) + p3) * 3) + p4), .inr (.inr (some 56))]) (w' := (SH, dt7)) rfl ?_
            have r12 : (-2147483648) ≤ dt7 56 (((((p2 * 4) + p3) * 3) + p4).toNat) ∧ dt7 56 (((((p2 * 4) + p3) * 3) + p4).toNat) ≤ 2147483647 := InvC_get hI8 56 (((((p2 * 4) + p3) * 3) + p4).toNat) rfl rfl
            refine go_smpq PM73 (L' := [some (.inr (.inr (some 0))), some (.inl p1), some (.inl p2), some (.inl p3), some (.inl p4)]) (st' := [.inl (dt7 56 (((((p2 * 4) + p3) * 3) + p4).toNat))]) (w' := (SH, dt7)) rfl rfl (s_iald (n := 48) (f := dt7 56) rfl ⟨by (first | omega | (have z0_ := unhid c4; omega)), by (first | omega | (have z0_ := unhid c4; omega))⟩) ?_
            refine go_retq PM73 (k := 0) (r := some (.inl (dt7 56 (((((p2 * 4) + p3) * 3) + p4).toNat)))) (w1 := (SH, dt7)) rfl ?_
            exact ⟨dt7, rfl, hI8, hF10, (Or.inr ⟨_, rfl, trivial, ⟨by first | exact True.intro | with_reducible assumption | exact unhid (by with_reducible assumption) | rfl | (first | omega | (have z0_ := unhid c4; omega)) | trivial, by rw [show 12 * p2.toNat + 3 * p3.toNat + p4.toNat = ((((p2 * 4) + p3) * 3) + p4).toNat by first | with_reducible assumption | exact unhid (by with_reducible assumption) | (first | omega | (have z0_ := unhid c4; omega))]; (first | omega | (have z0_ := unhid c4; omega))⟩⟩)⟩
          · skip
            refine go_retq PM73 (k := 2) (r := some (.inl (-2))) (w1 := (SH, dt)) rfl ?_
            first | exact ⟨dt, rfl, hI, hF, (Or.inl ⟨rfl, by first | exact True.intro | with_reducible assumption | exact unhid (by with_reducible assumption) | rfl | (first | omega | (have z0_ := unhid c4; omega)) | trivial⟩)⟩ | exact ⟨dt, rfl, hI, hF, (Or.inr ⟨_, rfl, trivial, ⟨by first | exact True.intro | with_reducible assumption | exact unhid (by with_reducible assumption) | rfl | (first | omega | (have z0_ := unhid c4; omega)) | trivial, by rw [show 12 * p2.toNat + 3 * p3.toNat + p4.toNat = ((((p2 * 4) + p3) * 3) + p4).toNat by first | with_reducible assumption | exact unhid (by with_reducible assumption) | (first | omega | (have z0_ := unhid c4; omega))]; (first | omega | (have z0_ := unhid c4; omega))⟩⟩)⟩
      · skip
        refine go_retq PM73 (k := 2) (r := some (.inl (-2))) (w1 := (SH, dt)) rfl ?_
        first | exact ⟨dt, rfl, hI, hF, (Or.inl ⟨rfl, by first | exact True.intro | with_reducible assumption | rfl | omega | trivial⟩)⟩ | exact ⟨dt, rfl, hI, hF, (Or.inr ⟨_, rfl, trivial, ⟨by first | exact True.intro | with_reducible assumption | rfl | omega | trivial, by rw [show 12 * p2.toNat + 3 * p3.toNat + p4.toNat = ((((p2 * 4) + p3) * 3) + p4).toNat by first | with_reducible assumption | omega]; omega⟩⟩)⟩
    · skip
      refine go_retq PM73 (k := 2) (r := some (.inl (-2))) (w1 := (SH, dt)) rfl ?_
      first | exact ⟨dt, rfl, hI, hF, (Or.inl ⟨rfl, by first | exact True.intro | with_reducible assumption | rfl | omega | trivial⟩)⟩ | exact ⟨dt, rfl, hI, hF, (Or.inr ⟨_, rfl, trivial, ⟨by first | exact True.intro | with_reducible assumption | rfl | omega | trivial, by rw [show 12 * p2.toNat + 3 * p3.toNat + p4.toNat = ((((p2 * 4) + p3) * 3) + p4).toNat by first | with_reducible assumption | omega]; omega⟩⟩)⟩
  · skip
    refine go_retq PM73 (k := 2) (r := some (.inl (-2))) (w1 := (SH, dt)) rfl ?_
    first | exact ⟨dt, rfl, hI, hF, (Or.inl ⟨rfl, by first | exact True.intro | with_reducible assumption | rfl | omega | trivial⟩)⟩ | exact ⟨dt, rfl, hI, hF, (Or.inr ⟨_, rfl, trivial, ⟨by first | exact True.intro | with_reducible assumption | rfl | omega | trivial, by rw [show 12 * p2.toNat + 3 * p3.toNat + p4.toNat = ((((p2 * 4) + p3) * 3) + p4).toNat by first | with_reducible assumption | omega]; omega⟩⟩)⟩
set_option maxRecDepth 20000 in
theorem sp_X6_thinks_w (L : Nat) (xs : Nat → Int32) (sio : Option Nat) (d : Nat) (dt : Nat → Nat → Int) (hI : InvC dt) (hM : MW (dt 80))  (p1 : Int) (h_p1 : (-2147483648) ≤ p1 ∧ p1 ≤ 2147483647) (p2 : Int) (h_p2 : (-2147483648) ≤ p2 ∧ p2 ≤ 2147483647) (p3 : Int) (h_p3 : (-2147483648) ≤ p3 ∧ p3 ≤ 2147483647) (p4 : Int) (h_p4 : (-2147483648) ≤ p4 ∧ p4 ≤ 2147483647)  : GO (am_XX L xs sio) (d + 5) 189 0 [some (.inr (.inr (some 79))), some (.inl p1), some (.inl p2), some (.inl p3), some (.inl p4)] [] (SH, dt) (fun r w2 => ∃ dt2 : Nat → Nat → Int, w2 = (SH, dt2) ∧ InvC dt2 ∧ Fr [88, 89, 90, 91, 92, 93, 94, 95, 96, 97, 98, 99, 100] dt dt2 ∧ ((r = some (.inl (-2)) ∧ (¬ ((0 ≤ p1 ∧ p1 ≤ 7) ∧ (0 ≤ p2 ∧ p2 ≤ 3) ∧ (0 ≤ p3 ∧ p3 ≤ 3) ∧ ¬ p2 = p3 ∧ (0 ≤ p4 ∧ p4 ≤ 2)))) ∨ (∃ v : Int, r = some (.inl v) ∧ True ∧ ((0 ≤ p1 ∧ p1 ≤ 7) ∧ (0 ≤ p2 ∧ p2 ≤ 3) ∧ (0 ≤ p3 ∧ p3 ≤ 3) ∧ ¬ p2 = p3 ∧ (0 ≤ p4 ∧ p4 ≤ 2)) ∧ (v = wend (dt 80) p1 12 (12 * p2.toNat + 3 * p3.toNat + p4.toNat))))) := by
  have hF : Fr [88, 89, 90, 91, 92, 93, 94, 95, 96, 97, 98, 99, 100] dt dt := Fr_refl
  refine go_toq PM189 (k := 1) (pc' := 1) (L' := [some (.inr (.inr (some 79))), some (.inl p1), some (.inl p2), some (.inl p3), some (.inl p4)]) (st' := [.inl p1]) (w' := (SH, dt)) rfl ?_
  refine go_callq PM189 PM185 (Q' := _) rfl rfl rfl rfl (sp_X6_isScene L xs sio (d + 3) dt hI  p1 (by first | exact h_p1 | exact bnd h_p1 (by decide) (by decide) | exact ⟨by omega, by omega⟩) ) ?_
  rintro _ _ ⟨rfl, h1⟩
  refine ⟨rfl, ?_⟩
  rcases h1 with ⟨rfl, h1⟩ | ⟨rfl, h1⟩
  · skip
    refine go_toq PM189 (k := 2) (pc' := 8) (L' := [some (.inr (.inr (some 79))), some (.inl p1), some (.inl p2), some (.inl p3), some (.inl p4)]) (st' := [.inl p2]) (w' := (SH, dt)) rfl ?_
    refine go_callq PM189 PM186 (Q' := _) rfl rfl rfl rfl (sp_X6_isWho L xs sio (d + 3) dt hI  p2 (by first | exact h_p2 | exact bnd h_p2 (by decide) (by decide) | exact ⟨by omega, by omega⟩) ) ?_
    rintro _ _ ⟨rfl, h2⟩
    refine ⟨rfl, ?_⟩
    rcases h2 with ⟨rfl, h2⟩ | ⟨rfl, h2⟩
    · skip
      refine go_toq PM189 (k := 2) (pc' := 15) (L' := [some (.inr (.inr (some 79))), some (.inl p1), some (.inl p2), some (.inl p3), some (.inl p4)]) (st' := [.inl p3]) (w' := (SH, dt)) rfl ?_
      refine go_callq PM189 PM186 (Q' := _) rfl rfl rfl rfl (sp_X6_isWho L xs sio (d + 3) dt hI  p3 (by first | exact h_p3 | exact bnd h_p3 (by decide) (by decide) | exact ⟨by omega, by omega⟩) ) ?_
      rintro _ _ ⟨rfl, h3⟩
      refine ⟨rfl, ?_⟩
      rcases h3 with ⟨rfl, h3⟩ | ⟨rfl, h3⟩
      · skip
        refine go_ifq PM189 (k := 3) (p1 := 34) (p2 := 26) (L' := [some (.inr (.inr (some 79))), some (.inl p1), some (.inl p2), some (.inl p3), some (.inl p4)]) (st' := []) (w' := (SH, dt)) rfl (c_eq (a := p2) (b := p3) (by first | exact bnd h_p2 (by decide) (by decide) | exact ⟨by omega, by omega⟩) (by first | exact bnd h_p3 (by decide) (by decide) | exact ⟨by omega, by omega⟩)) (fun c4 => ?_) (fun c4 => ?_)
        · skip
          refine go_retq PM189 (k := 1) (r := some (.inl (-2))) (w1 := (SH, dt)) rfl ?_
          first | exact ⟨dt, rfl, hI, hF, (Or.inl ⟨rfl, by first | exact True.intro | with_reducible assumption | rfl | omega | trivial⟩)⟩ | exact ⟨dt, rfl, hI, hF, (Or.inr ⟨_, rfl, trivial, ⟨by first | exact True.intro | with_reducible assumption | rfl | omega | trivial, by rw [show 12 * p2.toNat + 3 * p3.toNat + p4.toNat = (((12 * p2) + (3 * p3)) + p4).toNat by first | with_reducible assumption | omega]; omega⟩⟩)⟩
        · skip
          replace c4 := hid c4
          refine go_toq PM189 (k := 1) (pc' := 28) (L' := [some (.inr (.inr (some 79))), some (.inl p1), some (.inl p2), some (.inl p3), some (.inl p4)]) (st' := [.inl p4]) (w' := (SH, dt)) rfl ?_
          refine go_callq PM189 PM187 (Q' := _) rfl rfl rfl rfl (sp_X6_isThing L xs sio (d + 3) dt hI  p4 (by first | exact h_p4 | exact bnd h_p4 (by decide) (by decide) | exact ⟨by (first | omega | (have z0_ := unhid c4; omega)), by (first | omega | (have z0_ := unhid c4; omega))⟩) ) ?_
          rintro _ _ ⟨rfl, h5⟩
          refine ⟨rfl, ?_⟩
          rcases h5 with ⟨rfl, h5⟩ | ⟨rfl, h5⟩
          · skip
            refine go_toq PM189 (k := 3) (pc' := 39) (L' := [some (.inr (.inr (some 79))), some (.inl p1), some (.inl p2), some (.inl p3), some (.inl p4)]) (st' := [.inl p1, .inr (.inr (some 79))]) (w' := (SH, dt)) rfl ?_
            refine go_callq PM189 PM184 (Q' := _) rfl rfl rfl rfl (sp_X6_goes_w L xs sio (d + 0) dt hI hM  p1 (by first | exact h_p1 | exact bnd h_p1 (by decide) (by decide) | exact ⟨by (first | omega | (have z0_ := unhid c4; omega)), by (first | omega | (have z0_ := unhid c4; omega))⟩) ) ?_
            rintro _ _ ⟨dt7, rfl, hI8, hF9, h6⟩
            refine ⟨rfl, ?_⟩
            have hF10 : Fr [88, 89, 90, 91, 92, 93, 94, 95, 96, 97, 98, 99, 100] dt dt7 := Fr_tr hF hF9 (by decide)
            rcases h6 with ⟨rfl, h6⟩
            have rd11 : wend (dt 80) p1 12 (((12 * p2) + (3 * p3)) + p4).toNat = dt7 99 (((12 * p2) + (3 * p3)) + p4).toNat := by rw [← h6]; exact VR_r (f := 12) (by decide) (show (((12 * p2) + (3 * p3)) + p4).toNat < 48 by (first | omega | (have z0_ := unhid c4; omega)))
            have hok_ := WOK_pl hM (k := p1.toNat) (by (first | omega | (have z0_ := unhid c4; omega))) (dt 80 (6 + p1).toNat).toNat (by have := MW_am hM p1 ⟨by (first | omega | (have z0_ := unhid c4; omega)), by (first | omega | (have z0_ := unhid c4; omega))⟩; (first | omega | (have z0_ := unhid c4; omega)))
            refine go_toq PM189 (k := 11) (pc' := 57) (L' := [some (.inr (.inr (some 79))), some (.inl p1), some (.inl p2), some (.inl p3), some (.inl p4)]) (st' := [.inl (((12 * p2) + (3 * p3)) + p4), .inr (.inr (some 99))]) (w' := (SH, dt7)) rfl ?_
            have r12 : (-2147483648) ≤ dt7 99 ((((12 * p2) + (3 * p3)) + p4).toNat) ∧ dt7 99 ((((12 * p2) + (3 * p3)) + p4).toNat) ≤ 2147483647 := InvC_get hI8 99 ((((12 * p2) + (3 * p3)) + p4).toNat) rfl rfl
            refine go_smpq PM189 (L' := [some (.inr (.inr (some 79))), some (.inl p1), some (.inl p2), some (.inl p3), some (.inl p4)]) (st' := [.inl (dt7 99 ((((12 * p2) + (3 * p3)) + p4).toNat))]) (w' := (SH, dt7)) rfl rfl (s_iald (n := 48) (f := dt7 99) rfl ⟨by (first | omega | (have z0_ := unhid c4; omega)), by (first | omega | (have z0_ := unhid c4; omega))⟩) ?_
            refine go_retq PM189 (k := 0) (r := some (.inl (dt7 99 ((((12 * p2) + (3 * p3)) + p4).toNat)))) (w1 := (SH, dt7)) rfl ?_
            exact ⟨dt7, rfl, hI8, hF10, (Or.inr ⟨_, rfl, trivial, ⟨by first | exact True.intro | with_reducible assumption | exact unhid (by with_reducible assumption) | rfl | (first | omega | (have z0_ := unhid c4; omega)) | trivial, by rw [show 12 * p2.toNat + 3 * p3.toNat + p4.toNat = (((12 * p2) + (3 * p3)) + p4).toNat by first | with_reducible assumption | exact unhid (by with_reducible assumption) | (first | omega | (have z0_ := unhid c4; omega))]; (first | omega | (have z0_ := unhid c4; omega))⟩⟩)⟩
          · skip
            refine go_retq PM189 (k := 2) (r := some (.inl (-2))) (w1 := (SH, dt)) rfl ?_
            first | exact ⟨dt, rfl, hI, hF, (Or.inl ⟨rfl, by first | exact True.intro | with_reducible assumption | exact unhid (by with_reducible assumption) | rfl | (first | omega | (have z0_ := unhid c4; omega)) | trivial⟩)⟩ | exact ⟨dt, rfl, hI, hF, (Or.inr ⟨_, rfl, trivial, ⟨by first | exact True.intro | with_reducible assumption | exact unhid (by with_reducible assumption) | rfl | (first | omega | (have z0_ := unhid c4; omega)) | trivial, by rw [show 12 * p2.toNat + 3 * p3.toNat + p4.toNat = (((12 * p2) + (3 * p3)) + p4).toNat by first | with_reducible assumption | exact unhid (by with_reducible assumption) | (first | omega | (have z0_ := unhid c4; omega))]; (first | omega | (have z0_ := unhid c4; omega))⟩⟩)⟩
      · skip
        refine go_retq PM189 (k := 2) (r := some (.inl (-2))) (w1 := (SH, dt)) rfl ?_
        first | exact ⟨dt, rfl, hI, hF, (Or.inl ⟨rfl, by first | exact True.intro | with_reducible assumption | rfl | omega | trivial⟩)⟩ | exact ⟨dt, rfl, hI, hF, (Or.inr ⟨_, rfl, trivial, ⟨by first | exact True.intro | with_reducible assumption | rfl | omega | trivial, by rw [show 12 * p2.toNat + 3 * p3.toNat + p4.toNat = (((12 * p2) + (3 * p3)) + p4).toNat by first | with_reducible assumption | omega]; omega⟩⟩)⟩
    · skip
      refine go_retq PM189 (k := 2) (r := some (.inl (-2))) (w1 := (SH, dt)) rfl ?_
      first | exact ⟨dt, rfl, hI, hF, (Or.inl ⟨rfl, by first | exact True.intro | with_reducible assumption | rfl | omega | trivial⟩)⟩ | exact ⟨dt, rfl, hI, hF, (Or.inr ⟨_, rfl, trivial, ⟨by first | exact True.intro | with_reducible assumption | rfl | omega | trivial, by rw [show 12 * p2.toNat + 3 * p3.toNat + p4.toNat = (((12 * p2) + (3 * p3)) + p4).toNat by first | with_reducible assumption | omega]; omega⟩⟩)⟩
  · skip
    refine go_retq PM189 (k := 2) (r := some (.inl (-2))) (w1 := (SH, dt)) rfl ?_
    first | exact ⟨dt, rfl, hI, hF, (Or.inl ⟨rfl, by first | exact True.intro | with_reducible assumption | rfl | omega | trivial⟩)⟩ | exact ⟨dt, rfl, hI, hF, (Or.inr ⟨_, rfl, trivial, ⟨by first | exact True.intro | with_reducible assumption | rfl | omega | trivial, by rw [show 12 * p2.toNat + 3 * p3.toNat + p4.toNat = (((12 * p2) + (3 * p3)) + p4).toNat by first | with_reducible assumption | omega]; omega⟩⟩)⟩
theorem sp_X5_here_w (L : Nat) (xs : Nat → Int32) (sio : Option Nat) (d : Nat) (dt : Nat → Nat → Int) (hI : InvC dt) (hM : MW (dt 80))  (p1 : Int) (h_p1 : (-2147483648) ≤ p1 ∧ p1 ≤ 2147483647) (p2 : Int) (h_p2 : (-2147483648) ≤ p2 ∧ p2 ≤ 2147483647) (p3 : Int) (h_p3 : (-2147483648) ≤ p3 ∧ p3 ≤ 2147483647) (h_p0 : SCL (dt 2) (dt 3) (dt 80)) : GO (am_XX L xs sio) (d + 5) 74 0 [some (.inr (.inr (some 0))), some (.inl p1), some (.inl p2), some (.inl p3)] [] (SH, dt) (fun r w2 => ∃ dt2 : Nat → Nat → Int, w2 = (SH, dt2) ∧ InvC dt2 ∧ Fr [44, 45, 46, 47, 48, 49, 50, 51, 52, 53, 54, 55, 56] dt dt2 ∧ ((r = some (.inl (-1)) ∧ (¬ ((0 ≤ p1 ∧ p1 ≤ 7) ∧ (0 ≤ p2 ∧ p2 ≤ 3) ∧ (0 ≤ p3 ∧ p3 ≤ 3)))) ∨ (∃ v : Int, r = some (.inl v) ∧ True ∧ ((0 ≤ p1 ∧ p1 ≤ 7) ∧ (0 ≤ p2 ∧ p2 ≤ 3) ∧ (0 ≤ p3 ∧ p3 ≤ 3)) ∧ (v = HER (wend (dt 80) p1) p2.toNat p3)))) := by
  have hF : Fr [44, 45, 46, 47, 48, 49, 50, 51, 52, 53, 54, 55, 56] dt dt := Fr_refl
  refine go_toq PM74 (k := 1) (pc' := 1) (L' := [some (.inr (.inr (some 0))), some (.inl p1), some (.inl p2), some (.inl p3)]) (st' := [.inl p1]) (w' := (SH, dt)) rfl ?_
  refine go_callq PM74 PM102 (Q' := _) rfl rfl rfl rfl (sp_X5_isScene L xs sio (d + 3) dt hI  p1 (by first | exact h_p1 | exact bnd h_p1 (by decide) (by decide) | exact ⟨by omega, by omega⟩) ) ?_
  rintro _ _ ⟨rfl, h1⟩
  refine ⟨rfl, ?_⟩
  rcases h1 with ⟨rfl, h1⟩ | ⟨rfl, h1⟩
  · skip
    refine go_toq PM74 (k := 2) (pc' := 8) (L' := [some (.inr (.inr (some 0))), some (.inl p1), some (.inl p2), some (.inl p3)]) (st' := [.inl p2]) (w' := (SH, dt)) rfl ?_
    refine go_callq PM74 PM105 (Q' := _) rfl rfl rfl rfl (sp_X5_isWho L xs sio (d + 3) dt hI  p2 (by first | exact h_p2 | exact bnd h_p2 (by decide) (by decide) | exact ⟨by omega, by omega⟩) ) ?_
    rintro _ _ ⟨rfl, h2⟩
    refine ⟨rfl, ?_⟩
    rcases h2 with ⟨rfl, h2⟩ | ⟨rfl, h2⟩
    · skip
      refine go_toq PM74 (k := 3) (pc' := 18) (L' := [some (.inr (.inr (some 0))), some (.inl p1), some (.inl p2), some (.inl p3)]) (st' := [.inl p1, .inr (.inr (some 0))]) (w' := (SH, dt)) rfl ?_
      refine go_callq PM74 PM113 (Q' := _) rfl rfl rfl rfl (sp_X5_play_w L xs sio (d + 0) dt hI hM  p1 (by first | exact h_p1 | exact bnd h_p1 (by decide) (by decide) | exact ⟨by omega, by omega⟩) (by first | exact True.intro | with_reducible assumption | rfl | omega | trivial | assumption | (have z_ : -1 ≤ wend (dt 80) p1 1 p2.toNat ∧ wend (dt 80) p1 1 p2.toNat ≤ 1 := (hok_.1 p2.toNat (by omega)).2; omega))) ?_
      rintro _ _ ⟨dt4, rfl, hI5, hF6, h3⟩
      refine ⟨rfl, ?_⟩
      have hF7 : Fr [44, 45, 46, 47, 48, 49, 50, 51, 52, 53, 54, 55, 56] dt dt4 := Fr_tr hF hF6 (by decide)
      rcases h3 with ⟨rfl, h3⟩
      have rd8 : wend (dt 80) p1 0 p2.toNat = dt4 44 p2.toNat := by rw [← h3]; exact VC_r (f := 0) (by decide) (show p2.toNat < 4 by omega)
      have rd9 : wend (dt 80) p1 1 p2.toNat = dt4 45 p2.toNat := by rw [← h3]; exact VC_r (f := 1) (by decide) (show p2.toNat < 4 by omega)
      have rd10 : wend (dt 80) p1 2 (p2 * 2).toNat = dt4 46 (p2 * 2).toNat := by rw [← h3]; exact VC_r (f := 2) (by decide) (show (p2 * 2).toNat < 8 by omega)
      have rd11 : wend (dt 80) p1 2 ((p2 * 2) + 1).toNat = dt4 46 ((p2 * 2) + 1).toNat := by rw [← h3]; exact VC_r (f := 2) (by decide) (show ((p2 * 2) + 1).toNat < 8 by omega)
      have ew_ : p3 = 2 → 2 * p2.toNat = (p2 * 2).toNat := by omega
      replace ew_ := hid ew_
      have ew2_ : p3 = 3 → 2 * p2.toNat + 1 = ((p2 * 2) + 1).toNat := by (first | omega | (have z0_ := unhid ew_; omega))
      replace ew2_ := hid ew2_
      have hok_ := WOK_pl hM (k := p1.toNat) (by (first | omega | (have z0_ := unhid ew_; have z1_ := unhid ew2_; omega))) (dt 80 (6 + p1).toNat).toNat (by have := MW_am hM p1 ⟨by (first | omega | (have z0_ := unhid ew_; have z1_ := unhid ew2_; omega)), by (first | omega | (have z0_ := unhid ew_; have z1_ := unhid ew2_; omega))⟩; (first | omega | (have z0_ := unhid ew_; have z1_ := unhid ew2_; omega)))
      have r12 := wr_RR p3
      refine go_toq PM74 (k := 1) (pc' := 22) (L' := [some (.inr (.inr (some 0))), some (.inl p1), some (.inl p2), some (.inl p3)]) (st' := [.inl p3]) (w' := (SH, dt4)) rfl ?_
      have e14 : wr p3 = p3 := wr_R ⟨by (first | omega | (have z0_ := unhid ew_; have z1_ := unhid ew2_; omega)), by (first | omega | (have z0_ := unhid ew_; have z1_ := unhid ew2_; omega))⟩
      by_cases c13 : wr p3 < 0 ∨ 3 < wr p3
      · refine go_swoq PM74 (p1 := 105) (lo := 0) (hi := 3) rfl rfl c13 ?_
        refine go_retq PM74 (k := 1) (r := some (.inl (-1))) (w1 := (SH, dt4)) rfl ?_
        first | exact ⟨dt4, rfl, hI5, hF7, (Or.inl ⟨rfl, by first | exact True.intro | with_reducible assumption | exact unhid (by with_reducible assumption) | rfl | (first | omega | (have z0_ := unhid ew_; have z1_ := unhid ew2_; omega)) | trivial⟩)⟩ | exact ⟨dt4, rfl, hI5, hF7, (Or.inr ⟨_, rfl, trivial, ⟨by first | exact True.intro | with_reducible assumption | exact unhid (by with_reducible assumption) | rfl | (first | omega | (have z0_ := unhid ew_; have z1_ := unhid ew2_; omega)) | trivial, by first | (unfold HER; (repeat (first | rw [if_pos (by (first | omega | (have z0_ := unhid ew_; have z1_ := unhid ew2_; omega)))] | rw [if_neg (by (first | omega | (have z0_ := unhid ew_; have z1_ := unhid ew2_; omega)))])); first | (first | omega | (have z0_ := unhid ew_; have z1_ := unhid ew2_; omega)) | (rw [ew2_ (by (first | omega | (have z0_ := unhid ew_; have z1_ := unhid ew2_; omega)))]; (first | omega | (have z0_ := unhid ew_; have z1_ := unhid ew2_; omega))) | (rw [ew_ (by (first | omega | (have z0_ := unhid ew_; have z1_ := unhid ew2_; omega)))]; (first | omega | (have z0_ := unhid ew_; have z1_ := unhid ew2_; omega))) | (rw [← h3, hI]; rfl)) | (rcases (show p3 = 2 ∨ p3 = 3 by (first | omega | (have z0_ := unhid ew_; have z1_ := unhid ew2_; omega))) with z_ | z_ <;> (unfold HER; (repeat (first | rw [if_pos (by (first | omega | (have z0_ := unhid ew_; have z1_ := unhid ew2_; omega)))] | rw [if_neg (by (first | omega | (have z0_ := unhid ew_; have z1_ := unhid ew2_; omega)))])); first | (first | omega | (have z0_ := unhid ew_; have z1_ := unhid ew2_; omega)) | (rw [ew2_ (by (first | omega | (have z0_ := unhid ew_; have z1_ := unhid ew2_; omega)))]; (first | omega | (have z0_ := unhid ew_; have z1_ := unhid ew2_; omega))) | (rw [ew_ (by (first | omega | (have z0_ := unhid ew_; have z1_ := unhid ew2_; omega)))]; (first | omega | (have z0_ := unhid ew_; have z1_ := unhid ew2_; omega))) | (rw [← h3, hI]; rfl)))⟩⟩)⟩
      · have c15 : wr p3 = 0 ∨ wr p3 = 1 ∨ wr p3 = 2 ∨ wr p3 = 3 := by (first | omega | (have z0_ := unhid ew_; have z1_ := unhid ew2_; omega))
        rcases c15 with c15 | c15 | c15 | c15
        · refine go_swiq PM74 (v := 0) (p1 := 52) (lo := 0) (hi := 3) rfl c15 (by decide) rfl ?_
          refine go_toq PM74 (k := 4) (pc' := 60) (L' := [some (.inr (.inr (some 0))), some (.inl p1), some (.inl p2), some (.inl p3)]) (st' := [.inl p2, .inr (.inr (some 44))]) (w' := (SH, dt4)) rfl ?_
          have r16 : (-2147483648) ≤ dt4 44 (p2).toNat ∧ dt4 44 (p2).toNat ≤ 2147483647 := InvC_get hI5 44 (p2).toNat rfl rfl
          refine go_smpq PM74 (L' := [some (.inr (.inr (some 0))), some (.inl p1), some (.inl p2), some (.inl p3)]) (st' := [.inl (dt4 44 (p2).toNat)]) (w' := (SH, dt4)) rfl rfl (s_iald (n := 4) (f := dt4 44) rfl (by first | exact bndx h_p2 (by decide) (by decide) | exact ⟨by (first | omega | (have z0_ := unhid ew_; have z1_ := unhid ew2_; omega)), by (first | omega | (have z0_ := unhid ew_; have z1_ := unhid ew2_; omega))⟩)) ?_
          refine go_retq PM74 (k := 0) (r := some (.inl (dt4 44 (p2).toNat))) (w1 := (SH, dt4)) rfl ?_
          exact ⟨dt4, rfl, hI5, hF7, (Or.inr ⟨_, rfl, trivial, ⟨by first | exact True.intro | with_reducible assumption | exact unhid (by with_reducible assumption) | rfl | (first | omega | (have z0_ := unhid ew_; have z1_ := unhid ew2_; omega)) | trivial, by first | (unfold HER; (repeat (first | rw [if_pos (by (first | omega | (have z0_ := unhid ew_; have z1_ := unhid ew2_; omega)))] | rw [if_neg (by (first | omega | (have z0_ := unhid ew_; have z1_ := unhid ew2_; omega)))])); first | (first | omega | (have z0_ := unhid ew_; have z1_ := unhid ew2_; omega)) | (rw [ew2_ (by (first | omega | (have z0_ := unhid ew_; have z1_ := unhid ew2_; omega)))]; (first | omega | (have z0_ := unhid ew_; have z1_ := unhid ew2_; omega))) | (rw [ew_ (by (first | omega | (have z0_ := unhid ew_; have z1_ := unhid ew2_; omega)))]; (first | omega | (have z0_ := unhid ew_; have z1_ := unhid ew2_; omega))) | (rw [← h3, hI]; rfl)) | (rcases (show p3 = 2 ∨ p3 = 3 by (first | omega | (have z0_ := unhid ew_; have z1_ := unhid ew2_; omega))) with z_ | z_ <;> (unfold HER; (repeat (first | rw [if_pos (by (first | omega | (have z0_ := unhid ew_; have z1_ := unhid ew2_; omega)))] | rw [if_neg (by (first | omega | (have z0_ := unhid ew_; have z1_ := unhid ew2_; omega)))])); first | (first | omega | (have z0_ := unhid ew_; have z1_ := unhid ew2_; omega)) | (rw [ew2_ (by (first | omega | (have z0_ := unhid ew_; have z1_ := unhid ew2_; omega)))]; (first | omega | (have z0_ := unhid ew_; have z1_ := unhid ew2_; omega))) | (rw [ew_ (by (first | omega | (have z0_ := unhid ew_; have z1_ := unhid ew2_; omega)))]; (first | omega | (have z0_ := unhid ew_; have z1_ := unhid ew2_; omega))) | (rw [← h3, hI]; rfl)))⟩⟩)⟩
        · refine go_swiq PM74 (v := 1) (p1 := 62) (lo := 0) (hi := 3) rfl c15 (by decide) rfl ?_
          refine go_toq PM74 (k := 3) (pc' := 67) (L' := [some (.inr (.inr (some 0))), some (.inl p1), some (.inl p2), some (.inl p3)]) (st' := [.inl p2, .inr (.inr (some 43))]) (w' := (SH, dt4)) rfl ?_
          refine go_callq PM74 PM54 (Q' := _) rfl rfl rfl rfl (sp_X4_canSee_w44 L xs sio (d + 4) dt4 hI5  p2 (by first | exact h_p2 | exact bnd h_p2 (by decide) (by decide) | exact ⟨by (first | omega | (have z0_ := unhid ew_; have z1_ := unhid ew2_; omega)), by (first | omega | (have z0_ := unhid ew_; have z1_ := unhid ew2_; omega))⟩) (by first | exact True.intro | with_reducible assumption | exact unhid (by with_reducible assumption) | rfl | (first | omega | (have z0_ := unhid ew_; have z1_ := unhid ew2_; omega)) | trivial | assumption | (have z_ : -1 ≤ wend (dt 80) p1 1 p2.toNat ∧ wend (dt 80) p1 1 p2.toNat ≤ 1 := (hok_.1 p2.toNat (by (first | omega | (have z0_ := unhid ew_; have z1_ := unhid ew2_; omega)))).2; (first | omega | (have z0_ := unhid ew_; have z1_ := unhid ew2_; omega))))) ?_
          rintro _ _ ⟨rfl, h17⟩
          refine ⟨rfl, ?_⟩
          rcases h17 with ⟨rfl, h17⟩ | ⟨rfl, h17⟩
          · skip
            refine go_retq PM74 (k := 3) (r := some (.inl 1)) (w1 := (SH, dt4)) rfl ?_
            exact ⟨dt4, rfl, hI5, hF7, (Or.inr ⟨_, rfl, trivial, ⟨by first | exact True.intro | with_reducible assumption | exact unhid (by with_reducible assumption) | rfl | (first | omega | (have z0_ := unhid ew_; have z1_ := unhid ew2_; omega)) | trivial, by first | (unfold HER; (repeat (first | rw [if_pos (by (first | omega | (have z0_ := unhid ew_; have z1_ := unhid ew2_; omega)))] | rw [if_neg (by (first | omega | (have z0_ := unhid ew_; have z1_ := unhid ew2_; omega)))])); first | (first | omega | (have z0_ := unhid ew_; have z1_ := unhid ew2_; omega)) | (rw [ew2_ (by (first | omega | (have z0_ := unhid ew_; have z1_ := unhid ew2_; omega)))]; (first | omega | (have z0_ := unhid ew_; have z1_ := unhid ew2_; omega))) | (rw [ew_ (by (first | omega | (have z0_ := unhid ew_; have z1_ := unhid ew2_; omega)))]; (first | omega | (have z0_ := unhid ew_; have z1_ := unhid ew2_; omega))) | (rw [← h3, h17]; rfl)) | (rcases (show p3 = 2 ∨ p3 = 3 by (first | omega | (have z0_ := unhid ew_; have z1_ := unhid ew2_; omega))) with z_ | z_ <;> (unfold HER; (repeat (first | rw [if_pos (by (first | omega | (have z0_ := unhid ew_; have z1_ := unhid ew2_; omega)))] | rw [if_neg (by (first | omega | (have z0_ := unhid ew_; have z1_ := unhid ew2_; omega)))])); first | (first | omega | (have z0_ := unhid ew_; have z1_ := unhid ew2_; omega)) | (rw [ew2_ (by (first | omega | (have z0_ := unhid ew_; have z1_ := unhid ew2_; omega)))]; (first | omega | (have z0_ := unhid ew_; have z1_ := unhid ew2_; omega))) | (rw [ew_ (by (first | omega | (have z0_ := unhid ew_; have z1_ := unhid ew2_; omega)))]; (first | omega | (have z0_ := unhid ew_; have z1_ := unhid ew2_; omega))) | (rw [← h3, h17]; rfl)))⟩⟩)⟩
          · skip
            refine go_retq PM74 (k := 2) (r := some (.inl 0)) (w1 := (SH, dt4)) rfl ?_
            exact ⟨dt4, rfl, hI5, hF7, (Or.inr ⟨_, rfl, trivial, ⟨by first | exact True.intro | with_reducible assumption | exact unhid (by with_reducible assumption) | rfl | (first | omega | (have z0_ := unhid ew_; have z1_ := unhid ew2_; omega)) | trivial, by first | (unfold HER; (repeat (first | rw [if_pos (by (first | omega | (have z0_ := unhid ew_; have z1_ := unhid ew2_; omega)))] | rw [if_neg (by (first | omega | (have z0_ := unhid ew_; have z1_ := unhid ew2_; omega)))])); first | (first | omega | (have z0_ := unhid ew_; have z1_ := unhid ew2_; omega)) | (rw [ew2_ (by (first | omega | (have z0_ := unhid ew_; have z1_ := unhid ew2_; omega)))]; (first | omega | (have z0_ := unhid ew_; have z1_ := unhid ew2_; omega))) | (rw [ew_ (by (first | omega | (have z0_ := unhid ew_; have z1_ := unhid ew2_; omega)))]; (first | omega | (have z0_ := unhid ew_; have z1_ := unhid ew2_; omega))) | (rw [← h3, h17]; rfl)) | (rcases (show p3 = 2 ∨ p3 = 3 by (first | omega | (have z0_ := unhid ew_; have z1_ := unhid ew2_; omega))) with z_ | z_ <;> (unfold HER; (repeat (first | rw [if_pos (by (first | omega | (have z0_ := unhid ew_; have z1_ := unhid ew2_; omega)))] | rw [if_neg (by (first | omega | (have z0_ := unhid ew_; have z1_ := unhid ew2_; omega)))])); first | (first | omega | (have z0_ := unhid ew_; have z1_ := unhid ew2_; omega)) | (rw [ew2_ (by (first | omega | (have z0_ := unhid ew_; have z1_ := unhid ew2_; omega)))]; (first | omega | (have z0_ := unhid ew_; have z1_ := unhid ew2_; omega))) | (rw [ew_ (by (first | omega | (have z0_ := unhid ew_; have z1_ := unhid ew2_; omega)))]; (first | omega | (have z0_ := unhid ew_; have z1_ := unhid ew2_; omega))) | (rw [← h3, h17]; rfl)))⟩⟩)⟩
        · refine go_swiq PM74 (v := 2) (p1 := 79) (lo := 0) (hi := 3) rfl c15 (by decide) rfl ?_
          refine go_toq PM74 (k := 6) (pc' := 89) (L' := [some (.inr (.inr (some 0))), some (.inl p1), some (.inl p2), some (.inl p3)]) (st' := [.inl (p2 * 2), .inr (.inr (some 46))]) (w' := (SH, dt4)) rfl ?_
          have r18 : (-2147483648) ≤ dt4 46 ((p2 * 2).toNat) ∧ dt4 46 ((p2 * 2).toNat) ≤ 2147483647 := InvC_get hI5 46 ((p2 * 2).toNat) rfl rfl
          refine go_smpq PM74 (L' := [some (.inr (.inr (some 0))), some (.inl p1), some (.inl p2), some (.inl p3)]) (st' := [.inl (dt4 46 ((p2 * 2).toNat))]) (w' := (SH, dt4)) rfl rfl (s_iald (n := 8) (f := dt4 46) rfl ⟨by (first | omega | (have z0_ := unhid ew_; have z1_ := unhid ew2_; omega)), by (first | omega | (have z0_ := unhid ew_; have z1_ := unhid ew2_; omega))⟩) ?_
          refine go_retq PM74 (k := 0) (r := some (.inl (dt4 46 ((p2 * 2).toNat)))) (w1 := (SH, dt4)) rfl ?_
          exact ⟨dt4, rfl, hI5, hF7, (Or.inr ⟨_, rfl, trivial, ⟨by first | exact True.intro | with_reducible assumption | exact unhid (by with_reducible assumption) | rfl | (first | omega | (have z0_ := unhid ew_; have z1_ := unhid ew2_; omega)) | trivial, by first | (unfold HER; (repeat (first | rw [if_pos (by (first | omega | (have z0_ := unhid ew_; have z1_ := unhid ew2_; omega)))] | rw [if_neg (by (first | omega | (have z0_ := unhid ew_; have z1_ := unhid ew2_; omega)))])); first | (first | omega | (have z0_ := unhid ew_; have z1_ := unhid ew2_; omega)) | (rw [ew2_ (by (first | omega | (have z0_ := unhid ew_; have z1_ := unhid ew2_; omega)))]; (first | omega | (have z0_ := unhid ew_; have z1_ := unhid ew2_; omega))) | (rw [ew_ (by (first | omega | (have z0_ := unhid ew_; have z1_ := unhid ew2_; omega)))]; (first | omega | (have z0_ := unhid ew_; have z1_ := unhid ew2_; omega))) | (rw [← h3, hI]; rfl)) | (rcases (show p3 = 2 ∨ p3 = 3 by (first | omega | (have z0_ := unhid ew_; have z1_ := unhid ew2_; omega))) with z_ | z_ <;> (unfold HER; (repeat (first | rw [if_pos (by (first | omega | (have z0_ := unhid ew_; have z1_ := unhid ew2_; omega)))] | rw [if_neg (by (first | omega | (have z0_ := unhid ew_; have z1_ := unhid ew2_; omega)))])); first | (first | omega | (have z0_ := unhid ew_; have z1_ := unhid ew2_; omega)) | (rw [ew2_ (by (first | omega | (have z0_ := unhid ew_; have z1_ := unhid ew2_; omega)))]; (first | omega | (have z0_ := unhid ew_; have z1_ := unhid ew2_; omega))) | (rw [ew_ (by (first | omega | (have z0_ := unhid ew_; have z1_ := unhid ew2_; omega)))]; (first | omega | (have z0_ := unhid ew_; have z1_ := unhid ew2_; omega))) | (rw [← h3, hI]; rfl)))⟩⟩)⟩
        · refine go_swiq PM74 (v := 3) (p1 := 91) (lo := 0) (hi := 3) rfl c15 (by decide) rfl ?_
          refine go_toq PM74 (k := 8) (pc' := 103) (L' := [some (.inr (.inr (some 0))), some (.inl p1), some (.inl p2), some (.inl p3)]) (st' := [.inl ((p2 * 2) + 1), .inr (.inr (some 46))]) (w' := (SH, dt4)) rfl ?_
          have r19 : (-2147483648) ≤ dt4 46 (((p2 * 2) + 1).toNat) ∧ dt4 46 (((p2 * 2) + 1).toNat) ≤ 2147483647 := InvC_get hI5 46 (((p2 * 2) + 1).toNat) rfl rfl
          refine go_smpq PM74 (L' := [some (.inr (.inr (some 0))), some (.inl p1), some (.inl p2), some (.inl p3)]) (st' := [.inl (dt4 46 (((p2 * 2) + 1).toNat))]) (w' := (SH, dt4)) rfl rfl (s_iald (n := 8) (f := dt4 46) rfl ⟨by (first | omega | (have z0_ := unhid ew_; have z1_ := unhid ew2_; omega)), by (first | omega | (have z0_ := unhid ew_; have z1_ := unhid ew2_; omega))⟩) ?_
          refine go_retq PM74 (k := 0) (r := some (.inl (dt4 46 (((p2 * 2) + 1).toNat)))) (w1 := (SH, dt4)) rfl ?_
          exact ⟨dt4, rfl, hI5, hF7, (Or.inr ⟨_, rfl, trivial, ⟨by first | exact True.intro | with_reducible assumption | exact unhid (by with_reducible assumption) | rfl | (first | omega | (have z0_ := unhid ew_; have z1_ := unhid ew2_; omega)) | trivial, by first | (unfold HER; (repeat (first | rw [if_pos (by (first | omega | (have z0_ := unhid ew_; have z1_ := unhid ew2_; omega)))] | rw [if_neg (by (first | omega | (have z0_ := unhid ew_; have z1_ := unhid ew2_; omega)))])); first | (first | omega | (have z0_ := unhid ew_; have z1_ := unhid ew2_; omega)) | (rw [ew2_ (by (first | omega | (have z0_ := unhid ew_; have z1_ := unhid ew2_; omega)))]; (first | omega | (have z0_ := unhid ew_; have z1_ := unhid ew2_; omega))) | (rw [ew_ (by (first | omega | (have z0_ := unhid ew_; have z1_ := unhid ew2_; omega)))]; (first | omega | (have z0_ := unhid ew_; have z1_ := unhid ew2_; omega))) | (rw [← h3, hI]; rfl)) | (rcases (show p3 = 2 ∨ p3 = 3 by (first | omega | (have z0_ := unhid ew_; have z1_ := unhid ew2_; omega))) with z_ | z_ <;> (unfold HER; (repeat (first | rw [if_pos (by (first | omega | (have z0_ := unhid ew_; have z1_ := unhid ew2_; omega)))] | rw [if_neg (by (first | omega | (have z0_ := unhid ew_; have z1_ := unhid ew2_; omega)))])); first | (first | omega | (have z0_ := unhid ew_; have z1_ := unhid ew2_; omega)) | (rw [ew2_ (by (first | omega | (have z0_ := unhid ew_; have z1_ := unhid ew2_; omega)))]; (first | omega | (have z0_ := unhid ew_; have z1_ := unhid ew2_; omega))) | (rw [ew_ (by (first | omega | (have z0_ := unhid ew_; have z1_ := unhid ew2_; omega)))]; (first | omega | (have z0_ := unhid ew_; have z1_ := unhid ew2_; omega))) | (rw [← h3, hI]; rfl)))⟩⟩)⟩
    · skip
      refine go_retq PM74 (k := 2) (r := some (.inl (-1))) (w1 := (SH, dt)) rfl ?_
      first | exact ⟨dt, rfl, hI, hF, (Or.inl ⟨rfl, by first | exact True.intro | with_reducible assumption | rfl | omega | trivial⟩)⟩ | exact ⟨dt, rfl, hI, hF, (Or.inr ⟨_, rfl, trivial, ⟨by first | exact True.intro | with_reducible assumption | rfl | omega | trivial, by first | (unfold HER; (repeat (first | rw [if_pos (by omega)] | rw [if_neg (by omega)])); first | omega | (rw [ew2_ (by omega)]; omega) | (rw [ew_ (by omega)]; omega) | (rw [← hI, hI]; rfl)) | (rcases (show p3 = 2 ∨ p3 = 3 by omega) with z_ | z_ <;> (unfold HER; (repeat (first | rw [if_pos (by omega)] | rw [if_neg (by omega)])); first | omega | (rw [ew2_ (by omega)]; omega) | (rw [ew_ (by omega)]; omega) | (rw [← hI, hI]; rfl)))⟩⟩)⟩
  · skip
    refine go_retq PM74 (k := 2) (r := some (.inl (-1))) (w1 := (SH, dt)) rfl ?_
    first | exact ⟨dt, rfl, hI, hF, (Or.inl ⟨rfl, by first | exact True.intro | with_reducible assumption | rfl | omega | trivial⟩)⟩ | exact ⟨dt, rfl, hI, hF, (Or.inr ⟨_, rfl, trivial, ⟨by first | exact True.intro | with_reducible assumption | rfl | omega | trivial, by first | (unfold HER; (repeat (first | rw [if_pos (by omega)] | rw [if_neg (by omega)])); first | omega | (rw [ew2_ (by omega)]; omega) | (rw [ew_ (by omega)]; omega) | (rw [← hI, hI]; rfl)) | (rcases (show p3 = 2 ∨ p3 = 3 by omega) with z_ | z_ <;> (unfold HER; (repeat (first | rw [if_pos (by omega)] | rw [if_neg (by omega)])); first | omega | (rw [ew2_ (by omega)]; omega) | (rw [ew_ (by omega)]; omega) | (rw [← hI, hI]; rfl)))⟩⟩)⟩
set_option maxRecDepth 20000 in
theorem sp_X6_here_w (L : Nat) (xs : Nat → Int32) (sio : Option Nat) (d : Nat) (dt : Nat → Nat → Int) (hI : InvC dt) (hM : MW (dt 80))  (p1 : Int) (h_p1 : (-2147483648) ≤ p1 ∧ p1 ≤ 2147483647) (p2 : Int) (h_p2 : (-2147483648) ≤ p2 ∧ p2 ≤ 2147483647) (p3 : Int) (h_p3 : (-2147483648) ≤ p3 ∧ p3 ≤ 2147483647)  : GO (am_XX L xs sio) (d + 5) 190 0 [some (.inr (.inr (some 79))), some (.inl p1), some (.inl p2), some (.inl p3), none] [] (SH, dt) (fun r w2 => ∃ dt2 : Nat → Nat → Int, w2 = (SH, dt2) ∧ InvC dt2 ∧ Fr [88, 89, 90, 91, 92, 93, 94, 95, 96, 97, 98, 99, 100] dt dt2 ∧ ((r = some (.inl (-1)) ∧ (¬ ((0 ≤ p1 ∧ p1 ≤ 7) ∧ (0 ≤ p2 ∧ p2 ≤ 3) ∧ (0 ≤ p3 ∧ p3 ≤ 3)))) ∨ (∃ v : Int, r = some (.inl v) ∧ True ∧ ((0 ≤ p1 ∧ p1 ≤ 7) ∧ (0 ≤ p2 ∧ p2 ≤ 3) ∧ (0 ≤ p3 ∧ p3 ≤ 3)) ∧ (v = HER (wend (dt 80) p1) p2.toNat p3)))) := by
  have hF : Fr [88, 89, 90, 91, 92, 93, 94, 95, 96, 97, 98, 99, 100] dt dt := Fr_refl
  refine go_toq PM190 (k := 1) (pc' := 1) (L' := [some (.inr (.inr (some 79))), some (.inl p1), some (.inl p2), some (.inl p3), none]) (st' := [.inl p1]) (w' := (SH, dt)) rfl ?_
  refine go_callq PM190 PM185 (Q' := _) rfl rfl rfl rfl (sp_X6_isScene L xs sio (d + 3) dt hI  p1 (by first | exact h_p1 | exact bnd h_p1 (by decide) (by decide) | exact ⟨by omega, by omega⟩) ) ?_
  rintro _ _ ⟨rfl, h1⟩
  refine ⟨rfl, ?_⟩
  rcases h1 with ⟨rfl, h1⟩ | ⟨rfl, h1⟩
  · skip
    refine go_toq PM190 (k := 2) (pc' := 8) (L' := [some (.inr (.inr (some 79))), some (.inl p1), some (.inl p2), some (.inl p3), none]) (st' := [.inl p2]) (w' := (SH, dt)) rfl ?_
    refine go_callq PM190 PM186 (Q' := _) rfl rfl rfl rfl (sp_X6_isWho L xs sio (d + 3) dt hI  p2 (by first | exact h_p2 | exact bnd h_p2 (by decide) (by decide) | exact ⟨by omega, by omega⟩) ) ?_
    rintro _ _ ⟨rfl, h2⟩
    refine ⟨rfl, ?_⟩
    rcases h2 with ⟨rfl, h2⟩ | ⟨rfl, h2⟩
    · skip
      refine go_toq PM190 (k := 4) (pc' := 17) (L' := [some (.inr (.inr (some 79))), some (.inl p1), some (.inl p2), some (.inl p3), none]) (st' := [.inl 3, .inl 0, .inl p3]) (w' := (SH, dt)) rfl ?_
      refine go_callq PM190 PM146 (Q' := _) rfl rfl rfl rfl (sp_X6_isIn L xs sio (d + 4) dt hI  p3 (by first | exact h_p3 | exact bnd h_p3 (by decide) (by decide) | exact ⟨by omega, by omega⟩) 0 ⟨by decide, by decide⟩ 3 ⟨by decide, by decide⟩ ) ?_
      rintro _ _ ⟨rfl, h3⟩
      refine ⟨rfl, ?_⟩
      rcases h3 with ⟨rfl, h3⟩ | ⟨rfl, h3⟩
      · skip
        refine go_toq PM190 (k := 3) (pc' := 27) (L' := [some (.inr (.inr (some 79))), some (.inl p1), some (.inl p2), some (.inl p3), none]) (st' := [.inl p1, .inr (.inr (some 79))]) (w' := (SH, dt)) rfl ?_
        refine go_callq PM190 PM184 (Q' := _) rfl rfl rfl rfl (sp_X6_goes_w L xs sio (d + 0) dt hI hM  p1 (by first | exact h_p1 | exact bnd h_p1 (by decide) (by decide) | exact ⟨by omega, by omega⟩) ) ?_
        rintro _ _ ⟨dt5, rfl, hI6, hF7, h4⟩
        refine ⟨rfl, ?_⟩
        have hF8 : Fr [88, 89, 90, 91, 92, 93, 94, 95, 96, 97, 98, 99, 100] dt dt5 := Fr_tr hF hF7 (by decide)
        rcases h4 with ⟨rfl, h4⟩
        have rd9 : wend (dt 80) p1 0 p2.toNat = dt5 88 p2.toNat := by rw [← h4]; exact VR_r (f := 0) (by decide) (show p2.toNat < 4 by omega)
        have rd10 : wend (dt 80) p1 1 p2.toNat = dt5 91 p2.toNat := by rw [← h4]; exact VR_r (f := 1) (by decide) (show p2.toNat < 4 by omega)
        have rd11 : wend (dt 80) p1 2 (((2 * p2) + p3) - 2).toNat = dt5 89 (((2 * p2) + p3) - 2).toNat := by rw [← h4]; exact VR_r (f := 2) (by decide) (show (((2 * p2) + p3) - 2).toNat < 8 by omega)
        have rd12 : wend (dt 80) p1 2 (((2 * p2) + p3) - 2).toNat = dt5 89 (((2 * p2) + p3) - 2).toNat := by rw [← h4]; exact VR_r (f := 2) (by decide) (show (((2 * p2) + p3) - 2).toNat < 8 by omega)
        have ew_ : p3 = 2 → 2 * p2.toNat = (((2 * p2) + p3) - 2).toNat := by omega
        replace ew_ := hid ew_
        have ew2_ : p3 = 3 → 2 * p2.toNat + 1 = (((2 * p2) + p3) - 2).toNat := by (first | omega | (have z0_ := unhid ew_; omega))
        replace ew2_ := hid ew2_
        have hok_ := WOK_pl hM (k := p1.toNat) (by (first | omega | (have z0_ := unhid ew_; have z1_ := unhid ew2_; omega))) (dt 80 (6 + p1).toNat).toNat (by have := MW_am hM p1 ⟨by (first | omega | (have z0_ := unhid ew_; have z1_ := unhid ew2_; omega)), by (first | omega | (have z0_ := unhid ew_; have z1_ := unhid ew2_; omega))⟩; (first | omega | (have z0_ := unhid ew_; have z1_ := unhid ew2_; omega)))
        refine go_ifq PM190 (k := 1) (p1 := 43) (p2 := 34) (L' := [some (.inr (.inr (some 79))), some (.inl p1), some (.inl p2), some (.inl p3), none]) (st' := []) (w' := (SH, dt5)) rfl (z_ne (a := p3) (by first | exact bnd h_p3 (by decide) (by decide) | exact ⟨by (first | omega | (have z0_ := unhid ew_; have z1_ := unhid ew2_; omega)), by (first | omega | (have z0_ := unhid ew_; have z1_ := unhid ew2_; omega))⟩)) (fun c13 => ?_) (fun c13 => ?_)
        · skip
          replace c13 := hid c13
          refine go_ifq PM190 (k := 2) (p1 := 56) (p2 := 48) (L' := [some (.inr (.inr (some 79))), some (.inl p1), some (.inl p2), some (.inl p3), none]) (st' := []) (w' := (SH, dt5)) rfl (c_ne (a := p3) (b := 1) (by first | exact bnd h_p3 (by decide) (by decide) | exact ⟨by (first | omega | (have z0_ := unhid ew_; have z1_ := unhid ew2_; have z2_ := unhid c13; omega)), by (first | omega | (have z0_ := unhid ew_; have z1_ := unhid ew2_; have z2_ := unhid c13; omega))⟩) ⟨by decide, by decide⟩) (fun c14 => ?_) (fun c14 => ?_)
          · skip
            replace c14 := hid c14
            refine go_toq PM190 (k := 9) (pc' := 67) (L' := [some (.inr (.inr (some 79))), some (.inl p1), some (.inl p2), some (.inl p3), none]) (st' := [.inl (((2 * p2) + p3) - 2), .inr (.inr (some 89))]) (w' := (SH, dt5)) rfl ?_
            have r15 : 0 ≤ dt5 89 ((((2 * p2) + p3) - 2).toNat) ∧ dt5 89 ((((2 * p2) + p3) - 2).toNat) ≤ 1 := InvC_get hI6 89 ((((2 * p2) + p3) - 2).toNat) rfl rfl
            have u1_ := hid (And.intro (unhid ew_) (And.intro (unhid ew2_) (And.intro (unhid c13) (unhid c14))))
            refine go_smpq PM190 (L' := [some (.inr (.inr (some 79))), some (.inl p1), some (.inl p2), some (.inl p3), none]) (st' := [.inl (dt5 89 ((((2 * p2) + p3) - 2).toNat))]) (w' := (SH, dt5)) rfl rfl (s_zald (n := 8) (f := dt5 89) rfl ⟨by (first | omega | (have z_ := unhid u1_; omega)), by (first | omega | (have z_ := unhid u1_; omega))⟩) ?_
            refine go_ifq PM190 (k := 2) (p1 := 79) (p2 := 75) (L' := [some (.inr (.inr (some 79))), some (.inl p1), some (.inl p2), some (.inl p3), some (.inl (dt5 89 ((((2 * p2) + p3) - 2).toNat)))]) (st' := []) (w' := (SH, dt5)) rfl (z_eq (a := dt5 89 ((((2 * p2) + p3) - 2).toNat)) (by first | exact bnd r15 (by decide) (by decide) | exact ⟨by (first | omega | (have z_ := unhid u1_; omega)), by (first | omega | (have z_ := unhid u1_; omega))⟩)) (fun c16 => ?_) (fun c16 => ?_)
            · skip
              refine go_retq PM190 (k := 1) (r := some (.inl 0)) (w1 := (SH, dt5)) rfl ?_
              exact ⟨dt5, rfl, hI6, hF8, (Or.inr ⟨_, rfl, trivial, ⟨by first | exact True.intro | with_reducible assumption | exact unhid (by with_reducible assumption) | rfl | (first | omega | (have z_ := unhid u1_; omega)) | trivial, by first | (unfold HER; (repeat (first | rw [if_pos (by (first | omega | (have z_ := unhid u1_; omega)))] | rw [if_neg (by (first | omega | (have z_ := unhid u1_; omega)))])); first | (first | omega | (have z_ := unhid u1_; omega)) | (rw [ew2_ (by (first | omega | (have z_ := unhid u1_; omega)))]; (first | omega | (have z_ := unhid u1_; omega))) | (rw [ew_ (by (first | omega | (have z_ := unhid u1_; omega)))]; (first | omega | (have z_ := unhid u1_; omega))) | (rw [← h4, hI]; rfl)) | (rcases (show p3 = 2 ∨ p3 = 3 by (first | omega | (have z_ := unhid u1_; omega))) with z_ | z_ <;> (unfold HER; (repeat (first | rw [if_pos (by (first | omega | (have z_ := unhid u1_; omega)))] | rw [if_neg (by (first | omega | (have z_ := unhid u1_; omega)))])); first | (first | omega | (have z_ := unhid u1_; omega)) | (rw [ew2_ (by (first | omega | (have z_ := unhid u1_; omega)))]; (first | omega | (have z_ := unhid u1_; omega))) | (rw [ew_ (by (first | omega | (have z_ := unhid u1_; omega)))]; (first | omega | (have z_ := unhid u1_; omega))) | (rw [← h4, hI]; rfl)))⟩⟩)⟩
            · skip
              have qc16 : 1 ≤ dt5 89 ((((2 * p2) + p3) - 2).toNat) := by omega
              replace c16 := hid c16
              refine go_retq PM190 (k := 2) (r := some (.inl 1)) (w1 := (SH, dt5)) rfl ?_
              have u2_ := hid (And.intro (unhid ew_) (And.intro (unhid ew2_) (And.intro (unhid c13) (And.intro (unhid c14) (unhid c16)))))
              exact ⟨dt5, rfl, hI6, hF8, (Or.inr ⟨_, rfl, trivial, ⟨by first | exact True.intro | with_reducible assumption | exact unhid (by with_reducible assumption) | rfl | (first | omega | (have z_ := unhid u2_; omega)) | trivial, by first | (unfold HER; (repeat (first | rw [if_pos (by (first | omega | (have z_ := unhid u2_; omega)))] | rw [if_neg (by (first | omega | (have z_ := unhid u2_; omega)))])); first | (first | omega | (have z_ := unhid u2_; omega)) | (rw [ew2_ (by (first | omega | (have z_ := unhid u2_; omega)))]; (first | omega | (have z_ := unhid u2_; omega))) | (rw [ew_ (by (first | omega | (have z_ := unhid u2_; omega)))]; (first | omega | (have z_ := unhid u2_; omega))) | (rw [← h4, hI]; rfl)) | (rcases (show p3 = 2 ∨ p3 = 3 by (first | omega | (have z_ := unhid u2_; omega))) with z_ | z_ <;> (unfold HER; (repeat (first | rw [if_pos (by (first | omega | (have z_ := unhid u2_; omega)))] | rw [if_neg (by (first | omega | (have z_ := unhid u2_; omega)))])); first | (first | omega | (have z_ := unhid u2_; omega)) | (rw [ew2_ (by (first | omega | (have z_ := unhid u2_; omega)))]; (first | omega | (have z_ := unhid u2_; omega))) | (rw [ew_ (by (first | omega | (have z_ := unhid u2_; omega)))]; (first | omega | (have z_ := unhid u2_; omega))) | (rw [← h4, hI]; rfl)))⟩⟩)⟩
          · skip
            refine go_toq PM190 (k := 2) (pc' := 50) (L' := [some (.inr (.inr (some 79))), some (.inl p1), some (.inl p2), some (.inl p3), none]) (st' := [.inl p2, .inr (.inr (some 79))]) (w' := (SH, dt5)) rfl ?_
            refine go_callq PM190 PM178 (Q' := _) rfl rfl rfl rfl (sp_X6_canSee_w L xs sio (d + 4) dt5 hI6  p2 (by first | exact h_p2 | exact bnd h_p2 (by decide) (by decide) | exact ⟨by (first | omega | (have z0_ := unhid ew_; have z1_ := unhid ew2_; have z2_ := unhid c13; omega)), by (first | omega | (have z0_ := unhid ew_; have z1_ := unhid ew2_; have z2_ := unhid c13; omega))⟩) ) ?_
            rintro _ _ ⟨rfl, h17⟩
            refine ⟨rfl, ?_⟩
            rcases h17 with ⟨rfl, h17⟩ | ⟨rfl, h17⟩
            · skip
              refine go_retq PM190 (k := 6) (r := some (.inl 1)) (w1 := (SH, dt5)) rfl ?_
              exact ⟨dt5, rfl, hI6, hF8, (Or.inr ⟨_, rfl, trivial, ⟨by first | exact True.intro | with_reducible assumption | exact unhid (by with_reducible assumption) | rfl | (first | omega | (have z0_ := unhid ew_; have z1_ := unhid ew2_; have z2_ := unhid c13; omega)) | trivial, by first | (unfold HER; (repeat (first | rw [if_pos (by (first | omega | (have z0_ := unhid ew_; have z1_ := unhid ew2_; have z2_ := unhid c13; omega)))] | rw [if_neg (by (first | omega | (have z0_ := unhid ew_; have z1_ := unhid ew2_; have z2_ := unhid c13; omega)))])); first | (first | omega | (have z0_ := unhid ew_; have z1_ := unhid ew2_; have z2_ := unhid c13; omega)) | (rw [ew2_ (by (first | omega | (have z0_ := unhid ew_; have z1_ := unhid ew2_; have z2_ := unhid c13; omega)))]; (first | omega | (have z0_ := unhid ew_; have z1_ := unhid ew2_; have z2_ := unhid c13; omega))) | (rw [ew_ (by (first | omega | (have z0_ := unhid ew_; have z1_ := unhid ew2_; have z2_ := unhid c13; omega)))]; (first | omega | (have z0_ := unhid ew_; have z1_ := unhid ew2_; have z2_ := unhid c13; omega))) | (rw [← h4, h17]; rfl)) | (rcases (show p3 = 2 ∨ p3 = 3 by (first | omega | (have z0_ := unhid ew_; have z1_ := unhid ew2_; have z2_ := unhid c13; omega))) with z_ | z_ <;> (unfold HER; (repeat (first | rw [if_pos (by (first | omega | (have z0_ := unhid ew_; have z1_ := unhid ew2_; have z2_ := unhid c13; omega)))] | rw [if_neg (by (first | omega | (have z0_ := unhid ew_; have z1_ := unhid ew2_; have z2_ := unhid c13; omega)))])); first | (first | omega | (have z0_ := unhid ew_; have z1_ := unhid ew2_; have z2_ := unhid c13; omega)) | (rw [ew2_ (by (first | omega | (have z0_ := unhid ew_; have z1_ := unhid ew2_; have z2_ := unhid c13; omega)))]; (first | omega | (have z0_ := unhid ew_; have z1_ := unhid ew2_; have z2_ := unhid c13; omega))) | (rw [ew_ (by (first | omega | (have z0_ := unhid ew_; have z1_ := unhid ew2_; have z2_ := unhid c13; omega)))]; (first | omega | (have z0_ := unhid ew_; have z1_ := unhid ew2_; have z2_ := unhid c13; omega))) | (rw [← h4, h17]; rfl)))⟩⟩)⟩
            · skip
              refine go_retq PM190 (k := 5) (r := some (.inl 0)) (w1 := (SH, dt5)) rfl ?_
              exact ⟨dt5, rfl, hI6, hF8, (Or.inr ⟨_, rfl, trivial, ⟨by first | exact True.intro | with_reducible assumption | exact unhid (by with_reducible assumption) | rfl | (first | omega | (have z0_ := unhid ew_; have z1_ := unhid ew2_; have z2_ := unhid c13; omega)) | trivial, by first | (unfold HER; (repeat (first | rw [if_pos (by (first | omega | (have z0_ := unhid ew_; have z1_ := unhid ew2_; have z2_ := unhid c13; omega)))] | rw [if_neg (by (first | omega | (have z0_ := unhid ew_; have z1_ := unhid ew2_; have z2_ := unhid c13; omega)))])); first | (first | omega | (have z0_ := unhid ew_; have z1_ := unhid ew2_; have z2_ := unhid c13; omega)) | (rw [ew2_ (by (first | omega | (have z0_ := unhid ew_; have z1_ := unhid ew2_; have z2_ := unhid c13; omega)))]; (first | omega | (have z0_ := unhid ew_; have z1_ := unhid ew2_; have z2_ := unhid c13; omega))) | (rw [ew_ (by (first | omega | (have z0_ := unhid ew_; have z1_ := unhid ew2_; have z2_ := unhid c13; omega)))]; (first | omega | (have z0_ := unhid ew_; have z1_ := unhid ew2_; have z2_ := unhid c13; omega))) | (rw [← h4, h17]; rfl)) | (rcases (show p3 = 2 ∨ p3 = 3 by (first | omega | (have z0_ := unhid ew_; have z1_ := unhid ew2_; have z2_ := unhid c13; omega))) with z_ | z_ <;> (unfold HER; (repeat (first | rw [if_pos (by (first | omega | (have z0_ := unhid ew_; have z1_ := unhid ew2_; have z2_ := unhid c13; omega)))] | rw [if_neg (by (first | omega | (have z0_ := unhid ew_; have z1_ := unhid ew2_; have z2_ := unhid c13; omega)))])); first | (first | omega | (have z0_ := unhid ew_; have z1_ := unhid ew2_; have z2_ := unhid c13; omega)) | (rw [ew2_ (by (first | omega | (have z0_ := unhid ew_; have z1_ := unhid ew2_; have z2_ := unhid c13; omega)))]; (first | omega | (have z0_ := unhid ew_; have z1_ := unhid ew2_; have z2_ := unhid c13; omega))) | (rw [ew_ (by (first | omega | (have z0_ := unhid ew_; have z1_ := unhid ew2_; have z2_ := unhid c13; omega)))]; (first | omega | (have z0_ := unhid ew_; have z1_ := unhid ew2_; have z2_ := unhid c13; omega))) | (rw [← h4, h17]; rfl)))⟩⟩)⟩
        · skip
          refine go_toq PM190 (k := 3) (pc' := 39) (L' := [some (.inr (.inr (some 79))), some (.inl p1), some (.inl p2), some (.inl p3), none]) (st' := [.inl p2, .inr (.inr (some 88))]) (w' := (SH, dt5)) rfl ?_
          have r18 : 0 ≤ dt5 88 (p2).toNat ∧ dt5 88 (p2).toNat ≤ 1 := InvC_get hI6 88 (p2).toNat rfl rfl
          refine go_smpq PM190 (L' := [some (.inr (.inr (some 79))), some (.inl p1), some (.inl p2), some (.inl p3), none]) (st' := [.inl (dt5 88 (p2).toNat)]) (w' := (SH, dt5)) rfl rfl (s_zald (n := 4) (f := dt5 88) rfl (by first | exact bndx h_p2 (by decide) (by decide) | exact ⟨by (first | omega | (have z0_ := unhid ew_; have z1_ := unhid ew2_; omega)), by (first | omega | (have z0_ := unhid ew_; have z1_ := unhid ew2_; omega))⟩)) ?_
          refine go_ifq PM190 (k := 3) (p1 := 79) (p2 := 75) (L' := [some (.inr (.inr (some 79))), some (.inl p1), some (.inl p2), some (.inl p3), some (.inl (dt5 88 (p2).toNat))]) (st' := []) (w' := (SH, dt5)) rfl (z_eq (a := dt5 88 (p2).toNat) (by first | exact bnd r18 (by decide) (by decide) | exact ⟨by (first | omega | (have z0_ := unhid ew_; have z1_ := unhid ew2_; omega)), by (first | omega | (have z0_ := unhid ew_; have z1_ := unhid ew2_; omega))⟩)) (fun c19 => ?_) (fun c19 => ?_)
          · skip
            refine go_retq PM190 (k := 1) (r := some (.inl 0)) (w1 := (SH, dt5)) rfl ?_
            exact ⟨dt5, rfl, hI6, hF8, (Or.inr ⟨_, rfl, trivial, ⟨by first | exact True.intro | with_reducible assumption | exact unhid (by with_reducible assumption) | rfl | (first | omega | (have z0_ := unhid ew_; have z1_ := unhid ew2_; omega)) | trivial, by first | (unfold HER; (repeat (first | rw [if_pos (by (first | omega | (have z0_ := unhid ew_; have z1_ := unhid ew2_; omega)))] | rw [if_neg (by (first | omega | (have z0_ := unhid ew_; have z1_ := unhid ew2_; omega)))])); first | (first | omega | (have z0_ := unhid ew_; have z1_ := unhid ew2_; omega)) | (rw [ew2_ (by (first | omega | (have z0_ := unhid ew_; have z1_ := unhid ew2_; omega)))]; (first | omega | (have z0_ := unhid ew_; have z1_ := unhid ew2_; omega))) | (rw [ew_ (by (first | omega | (have z0_ := unhid ew_; have z1_ := unhid ew2_; omega)))]; (first | omega | (have z0_ := unhid ew_; have z1_ := unhid ew2_; omega))) | (rw [← h4, hI]; rfl)) | (rcases (show p3 = 2 ∨ p3 = 3 by (first | omega | (have z0_ := unhid ew_; have z1_ := unhid ew2_; omega))) with z_ | z_ <;> (unfold HER; (repeat (first | rw [if_pos (by (first | omega | (have z0_ := unhid ew_; have z1_ := unhid ew2_; omega)))] | rw [if_neg (by (first | omega | (have z0_ := unhid ew_; have z1_ := unhid ew2_; omega)))])); first | (first | omega | (have z0_ := unhid ew_; have z1_ := unhid ew2_; omega)) | (rw [ew2_ (by (first | omega | (have z0_ := unhid ew_; have z1_ := unhid ew2_; omega)))]; (first | omega | (have z0_ := unhid ew_; have z1_ := unhid ew2_; omega))) | (rw [ew_ (by (first | omega | (have z0_ := unhid ew_; have z1_ := unhid ew2_; omega)))]; (first | omega | (have z0_ := unhid ew_; have z1_ := unhid ew2_; omega))) | (rw [← h4, hI]; rfl)))⟩⟩)⟩
          · skip
            have qc19 : 1 ≤ dt5 88 (p2).toNat := by omega
            replace c19 := hid c19
            refine go_retq PM190 (k := 2) (r := some (.inl 1)) (w1 := (SH, dt5)) rfl ?_
            exact ⟨dt5, rfl, hI6, hF8, (Or.inr ⟨_, rfl, trivial, ⟨by first | exact True.intro | with_reducible assumption | exact unhid (by with_reducible assumption) | rfl | (first | omega | (have z0_ := unhid ew_; have z1_ := unhid ew2_; have z2_ := unhid c19; omega)) | trivial, by first | (unfold HER; (repeat (first | rw [if_pos (by (first | omega | (have z0_ := unhid ew_; have z1_ := unhid ew2_; have z2_ := unhid c19; omega)))] | rw [if_neg (by (first | omega | (have z0_ := unhid ew_; have z1_ := unhid ew2_; have z2_ := unhid c19; omega)))])); first | (first | omega | (have z0_ := unhid ew_; have z1_ := unhid ew2_; have z2_ := unhid c19; omega)) | (rw [ew2_ (by (first | omega | (have z0_ := unhid ew_; have z1_ := unhid ew2_; have z2_ := unhid c19; omega)))]; (first | omega | (have z0_ := unhid ew_; have z1_ := unhid ew2_; have z2_ := unhid c19; omega))) | (rw [ew_ (by (first | omega | (have z0_ := unhid ew_; have z1_ := unhid ew2_; have z2_ := unhid c19; omega)))]; (first | omega | (have z0_ := unhid ew_; have z1_ := unhid ew2_; have z2_ := unhid c19; omega))) | (rw [← h4, hI]; rfl)) | (rcases (show p3 = 2 ∨ p3 = 3 by (first | omega | (have z0_ := unhid ew_; have z1_ := unhid ew2_; have z2_ := unhid c19; omega))) with z_ | z_ <;> (unfold HER; (repeat (first | rw [if_pos (by (first | omega | (have z0_ := unhid ew_; have z1_ := unhid ew2_; have z2_ := unhid c19; omega)))] | rw [if_neg (by (first | omega | (have z0_ := unhid ew_; have z1_ := unhid ew2_; have z2_ := unhid c19; omega)))])); first | (first | omega | (have z0_ := unhid ew_; have z1_ := unhid ew2_; have z2_ := unhid c19; omega)) | (rw [ew2_ (by (first | omega | (have z0_ := unhid ew_; have z1_ := unhid ew2_; have z2_ := unhid c19; omega)))]; (first | omega | (have z0_ := unhid ew_; have z1_ := unhid ew2_; have z2_ := unhid c19; omega))) | (rw [ew_ (by (first | omega | (have z0_ := unhid ew_; have z1_ := unhid ew2_; have z2_ := unhid c19; omega)))]; (first | omega | (have z0_ := unhid ew_; have z1_ := unhid ew2_; have z2_ := unhid c19; omega))) | (rw [← h4, hI]; rfl)))⟩⟩)⟩
      · skip
        refine go_retq PM190 (k := 2) (r := some (.inl (-1))) (w1 := (SH, dt)) rfl ?_
        first | exact ⟨dt, rfl, hI, hF, (Or.inl ⟨rfl, by first | exact True.intro | with_reducible assumption | rfl | omega | trivial⟩)⟩ | exact ⟨dt, rfl, hI, hF, (Or.inr ⟨_, rfl, trivial, ⟨by first | exact True.intro | with_reducible assumption | rfl | omega | trivial, by first | (unfold HER; (repeat (first | rw [if_pos (by omega)] | rw [if_neg (by omega)])); first | omega | (rw [ew2_ (by omega)]; omega) | (rw [ew_ (by omega)]; omega) | (rw [← hI, hI]; rfl)) | (rcases (show p3 = 2 ∨ p3 = 3 by omega) with z_ | z_ <;> (unfold HER; (repeat (first | rw [if_pos (by omega)] | rw [if_neg (by omega)])); first | omega | (rw [ew2_ (by omega)]; omega) | (rw [ew_ (by omega)]; omega) | (rw [← hI, hI]; rfl)))⟩⟩)⟩
    · skip
      refine go_retq PM190 (k := 2) (r := some (.inl (-1))) (w1 := (SH, dt)) rfl ?_
      first | exact ⟨dt, rfl, hI, hF, (Or.inl ⟨rfl, by first | exact True.intro | with_reducible assumption | rfl | omega | trivial⟩)⟩ | exact ⟨dt, rfl, hI, hF, (Or.inr ⟨_, rfl, trivial, ⟨by first | exact True.intro | with_reducible assumption | rfl | omega | trivial, by first | (unfold HER; (repeat (first | rw [if_pos (by omega)] | rw [if_neg (by omega)])); first | omega | (rw [ew2_ (by omega)]; omega) | (rw [ew_ (by omega)]; omega) | (rw [← hI, hI]; rfl)) | (rcases (show p3 = 2 ∨ p3 = 3 by omega) with z_ | z_ <;> (unfold HER; (repeat (first | rw [if_pos (by omega)] | rw [if_neg (by omega)])); first | omega | (rw [ew2_ (by omega)]; omega) | (rw [ew_ (by omega)]; omega) | (rw [← hI, hI]; rfl)))⟩⟩)⟩
  · skip
    refine go_retq PM190 (k := 2) (r := some (.inl (-1))) (w1 := (SH, dt)) rfl ?_
    first | exact ⟨dt, rfl, hI, hF, (Or.inl ⟨rfl, by first | exact True.intro | with_reducible assumption | rfl | omega | trivial⟩)⟩ | exact ⟨dt, rfl, hI, hF, (Or.inr ⟨_, rfl, trivial, ⟨by first | exact True.intro | with_reducible assumption | rfl | omega | trivial, by first | (unfold HER; (repeat (first | rw [if_pos (by omega)] | rw [if_neg (by omega)])); first | omega | (rw [ew2_ (by omega)]; omega) | (rw [ew_ (by omega)]; omega) | (rw [← hI, hI]; rfl)) | (rcases (show p3 = 2 ∨ p3 = 3 by omega) with z_ | z_ <;> (unfold HER; (repeat (first | rw [if_pos (by omega)] | rw [if_neg (by omega)])); first | omega | (rw [ew2_ (by omega)]; omega) | (rw [ew_ (by omega)]; omega) | (rw [← hI, hI]; rfl)))⟩⟩)⟩
