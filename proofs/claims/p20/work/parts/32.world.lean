theorem sp_J7_fill_53178_44 (L : Nat) (xs : Nat → Int32) (sio : Option Nat) (d : Nat) (dt : Nat → Nat → Int) (hI : InvC dt)  (p2 : Int) (h_p2 : (-2147483648) ≤ p2 ∧ p2 ≤ 2147483647)  : GO (am_XX L xs sio) (d) 261 0 [some (.inr (.inr (some 44))), some (.inl p2), none, none] [] (SH, dt) (fun r w2 => ∃ dt2 : Nat → Nat → Int, w2 = (SH, dt2) ∧ InvC dt2 ∧ Fr [44] dt dt2 ∧ ((r = none ∧ True))) := by
  have hF : Fr [44] dt dt := Fr_refl
  refine go_toq PM261 (k := 5) (pc' := 5) (L' := [some (.inr (.inr (some 44))), some (.inl p2), some (.inl 0), some (.inl 4)]) (st' := []) (w' := (SH, dt)) rfl ?_
  have loop25 : ∀ (k_ : Nat) (l5_2 : Int) (dt21 : Nat → Nat → Int) (hI22 : InvC dt21) (hF23 : Fr [44] dt dt21) (i24 : 0 ≤ l5_2 ∧ l5_2 ≤ 4), (5 - l5_2).toNat < k_ → GO (am_XX L xs sio) (d) 261 5 [some (.inr (.inr (some 44))), some (.inl p2), some (.inl l5_2), some (.inl 4)] [] (SH, dt21) (fun r w2 => ∃ dt2 : Nat → Nat → Int, w2 = (SH, dt2) ∧ InvC dt2 ∧ Fr [44] dt dt2 ∧ ((r = none ∧ True))) := by
    intro k_
    induction k_ with
    | zero => intro l5_2 dt21 hI22 hF23 i24 hm; exact absurd hm (Nat.not_lt_zero _)
    | succ k_ ih_loop25 =>
      intro l5_2 dt21 hI22 hF23 i24 hm
      refine go_ifq PM261 (k := 2) (p1 := 20) (p2 := 10) (L' := [some (.inr (.inr (some 44))), some (.inl p2), some (.inl l5_2), some (.inl 4)]) (st' := []) (w' := (SH, dt21)) rfl (c_ge (a := l5_2) (b := 4) (by first | exact bnd i24 (by decide) (by decide) | exact ⟨by fail, by fail⟩) ⟨by decide, by decide⟩) (fun c29 => ?_) (fun c29 => ?_)
      · skip
        refine go_retq PM261 (k := 0) (r := none) (w1 := (SH, dt21)) rfl ?_
        exact ⟨dt21, rfl, hI22, hF23, ⟨rfl, trivial⟩⟩
      · skip
        refine go_toq PM261 (k := 3) (pc' := 13) (L' := [some (.inr (.inr (some 44))), some (.inl p2), some (.inl l5_2), some (.inl 4)]) (st' := [.inl p2, .inl l5_2, .inr (.inr (some 44))]) (w' := (SH, dt21)) rfl ?_
        have hI30 : InvC (u2 dt21 44 (l5_2).toNat p2) := InvC_u2 hI22 (lo := -2147483648) (hi := 2147483647) rfl rfl rfl (by first | exact bnd1 h_p2 (by decide) | fail) (by first | exact bnd2 h_p2 (by decide) | fail)
        have hF31 : Fr [44] dt (u2 dt21 44 (l5_2).toNat p2) := Fr_u2 hF23 (by decide)
        refine go_smpq PM261 (L' := [some (.inr (.inr (some 44))), some (.inl p2), some (.inl l5_2), some (.inl 4)]) (st' := []) (w' := (SH, (u2 dt21 44 (l5_2).toNat p2))) rfl rfl (s_iast (n := 4) rfl (by first | exact bndc i24 c29 (by decide) (by decide) | exact bndx i24 (by decide) (by decide) | exact ⟨by fail, by fail⟩) (by first | exact bnd h_p2 (by decide) (by decide) | exact ⟨by fail, by fail⟩)) ?_
        refine go_toq PM261 (k := 2) (pc' := 5) (L' := [some (.inr (.inr (some 44))), some (.inl p2), some (.inl (l5_2 + 1)), some (.inl 4)]) (st' := []) (w' := (SH, (u2 dt21 44 (l5_2).toNat p2))) rfl ?_
        exact GO.le (ih_loop25 (l5_2 + 1) (u2 dt21 44 (l5_2).toNat p2) hI30 hF31 (by first | exact bndp i24 (by decide) (by decide) | exact bnde i24 c29 (by decide) (by decide) | fail) (by omega)) ⟨.inl rfl, .inl rfl, .inl rfl, .inl rfl, trivial⟩
  exact GO.le (loop25 _ 0 dt hI hF ⟨by decide, by decide⟩ (Nat.lt_succ_self _)) ⟨.inl rfl, .inl rfl, .inl rfl, .inl rfl, trivial⟩
theorem sp_J7_fill_53178_45 (L : Nat) (xs : Nat → Int32) (sio : Option Nat) (d : Nat) (dt : Nat → Nat → Int) (hI : InvC dt)  (p2 : Int) (h_p2 : (-2147483648) ≤ p2 ∧ p2 ≤ 2147483647)  : GO (am_XX L xs sio) (d) 261 0 [some (.inr (.inr (some 45))), some (.inl p2), none, none] [] (SH, dt) (fun r w2 => ∃ dt2 : Nat → Nat → Int, w2 = (SH, dt2) ∧ InvC dt2 ∧ Fr [45] dt dt2 ∧ ((r = none ∧ True))) := by
  have hF : Fr [45] dt dt := Fr_refl
  refine go_toq PM261 (k := 5) (pc' := 5) (L' := [some (.inr (.inr (some 45))), some (.inl p2), some (.inl 0), some (.inl 4)]) (st' := []) (w' := (SH, dt)) rfl ?_
  have loop25 : ∀ (k_ : Nat) (l5_2 : Int) (dt21 : Nat → Nat → Int) (hI22 : InvC dt21) (hF23 : Fr [45] dt dt21) (i24 : 0 ≤ l5_2 ∧ l5_2 ≤ 4), (5 - l5_2).toNat < k_ → GO (am_XX L xs sio) (d) 261 5 [some (.inr (.inr (some 45))), some (.inl p2), some (.inl l5_2), some (.inl 4)] [] (SH, dt21) (fun r w2 => ∃ dt2 : Nat → Nat → Int, w2 = (SH, dt2) ∧ InvC dt2 ∧ Fr [45] dt dt2 ∧ ((r = none ∧ True))) := by
    intro k_
    induction k_ with
    | zero => intro l5_2 dt21 hI22 hF23 i24 hm; exact absurd hm (Nat.not_lt_zero _)
    | succ k_ ih_loop25 =>
      intro l5_2 dt21 hI22 hF23 i24 hm
      refine go_ifq PM261 (k := 2) (p1 := 20) (p2 := 10) (L' := [some (.inr (.inr (some 45))), some (.inl p2), some (.inl l5_2), some (.inl 4)]) (st' := []) (w' := (SH, dt21)) rfl (c_ge (a := l5_2) (b := 4) (by first | exact bnd i24 (by decide) (by decide) | exact ⟨by fail, by fail⟩) ⟨by decide, by decide⟩) (fun c29 => ?_) (fun c29 => ?_)
      · skip
        refine go_retq PM261 (k := 0) (r := none) (w1 := (SH, dt21)) rfl ?_
        exact ⟨dt21, rfl, hI22, hF23, ⟨rfl, trivial⟩⟩
      · skip
        refine go_toq PM261 (k := 3) (pc' := 13) (L' := [some (.inr (.inr (some 45))), some (.inl p2), some (.inl l5_2), some (.inl 4)]) (st' := [.inl p2, .inl l5_2, .inr (.inr (some 45))]) (w' := (SH, dt21)) rfl ?_
        have hI30 : InvC (u2 dt21 45 (l5_2).toNat p2) := InvC_u2 hI22 (lo := -2147483648) (hi := 2147483647) rfl rfl rfl (by first | exact bnd1 h_p2 (by decide) | fail) (by first | exact bnd2 h_p2 (by decide) | fail)
        have hF31 : Fr [45] dt (u2 dt21 45 (l5_2).toNat p2) := Fr_u2 hF23 (by decide)
        refine go_smpq PM261 (L' := [some (.inr (.inr (some 45))), some (.inl p2), some (.inl l5_2), some (.inl 4)]) (st' := []) (w' := (SH, (u2 dt21 45 (l5_2).toNat p2))) rfl rfl (s_iast (n := 4) rfl (by first | exact bndc i24 c29 (by decide) (by decide) | exact bndx i24 (by decide) (by decide) | exact ⟨by fail, by fail⟩) (by first | exact bnd h_p2 (by decide) (by decide) | exact ⟨by fail, by fail⟩)) ?_
        refine go_toq PM261 (k := 2) (pc' := 5) (L' := [some (.inr (.inr (some 45))), some (.inl p2), some (.inl (l5_2 + 1)), some (.inl 4)]) (st' := []) (w' := (SH, (u2 dt21 45 (l5_2).toNat p2))) rfl ?_
        exact GO.le (ih_loop25 (l5_2 + 1) (u2 dt21 45 (l5_2).toNat p2) hI30 hF31 (by first | exact bndp i24 (by decide) (by decide) | exact bnde i24 c29 (by decide) (by decide) | fail) (by omega)) ⟨.inl rfl, .inl rfl, .inl rfl, .inl rfl, trivial⟩
  exact GO.le (loop25 _ 0 dt hI hF ⟨by decide, by decide⟩ (Nat.lt_succ_self _)) ⟨.inl rfl, .inl rfl, .inl rfl, .inl rfl, trivial⟩
theorem sp_J7_fill_53178_46 (L : Nat) (xs : Nat → Int32) (sio : Option Nat) (d : Nat) (dt : Nat → Nat → Int) (hI : InvC dt)  (p2 : Int) (h_p2 : (-2147483648) ≤ p2 ∧ p2 ≤ 2147483647)  : GO (am_XX L xs sio) (d) 261 0 [some (.inr (.inr (some 46))), some (.inl p2), none, none] [] (SH, dt) (fun r w2 => ∃ dt2 : Nat → Nat → Int, w2 = (SH, dt2) ∧ InvC dt2 ∧ Fr [46] dt dt2 ∧ ((r = none ∧ True))) := by
  have hF : Fr [46] dt dt := Fr_refl
  refine go_toq PM261 (k := 5) (pc' := 5) (L' := [some (.inr (.inr (some 46))), some (.inl p2), some (.inl 0), some (.inl 8)]) (st' := []) (w' := (SH, dt)) rfl ?_
  have loop25 : ∀ (k_ : Nat) (l5_2 : Int) (dt21 : Nat → Nat → Int) (hI22 : InvC dt21) (hF23 : Fr [46] dt dt21) (i24 : 0 ≤ l5_2 ∧ l5_2 ≤ 8), (9 - l5_2).toNat < k_ → GO (am_XX L xs sio) (d) 261 5 [some (.inr (.inr (some 46))), some (.inl p2), some (.inl l5_2), some (.inl 8)] [] (SH, dt21) (fun r w2 => ∃ dt2 : Nat → Nat → Int, w2 = (SH, dt2) ∧ InvC dt2 ∧ Fr [46] dt dt2 ∧ ((r = none ∧ True))) := by
    intro k_
    induction k_ with
    | zero => intro l5_2 dt21 hI22 hF23 i24 hm; exact absurd hm (Nat.not_lt_zero _)
    | succ k_ ih_loop25 =>
      intro l5_2 dt21 hI22 hF23 i24 hm
      refine go_ifq PM261 (k := 2) (p1 := 20) (p2 := 10) (L' := [some (.inr (.inr (some 46))), some (.inl p2), some (.inl l5_2), some (.inl 8)]) (st' := []) (w' := (SH, dt21)) rfl (c_ge (a := l5_2) (b := 8) (by first | exact bnd i24 (by decide) (by decide) | exact ⟨by fail, by fail⟩) ⟨by decide, by decide⟩) (fun c29 => ?_) (fun c29 => ?_)
      · skip
        refine go_retq PM261 (k := 0) (r := none) (w1 := (SH, dt21)) rfl ?_
        exact ⟨dt21, rfl, hI22, hF23, ⟨rfl, trivial⟩⟩
      · skip
        refine go_toq PM261 (k := 3) (pc' := 13) (L' := [some (.inr (.inr (some 46))), some (.inl p2), some (.inl l5_2), some (.inl 8)]) (st' := [.inl p2, .inl l5_2, .inr (.inr (some 46))]) (w' := (SH, dt21)) rfl ?_
        have hI30 : InvC (u2 dt21 46 (l5_2).toNat p2) := InvC_u2 hI22 (lo := -2147483648) (hi := 2147483647) rfl rfl rfl (by first | exact bnd1 h_p2 (by decide) | fail) (by first | exact bnd2 h_p2 (by decide) | fail)
        have hF31 : Fr [46] dt (u2 dt21 46 (l5_2).toNat p2) := Fr_u2 hF23 (by decide)
        refine go_smpq PM261 (L' := [some (.inr (.inr (some 46))), some (.inl p2), some (.inl l5_2), some (.inl 8)]) (st' := []) (w' := (SH, (u2 dt21 46 (l5_2).toNat p2))) rfl rfl (s_iast (n := 8) rfl (by first | exact bndc i24 c29 (by decide) (by decide) | exact bndx i24 (by decide) (by decide) | exact ⟨by fail, by fail⟩) (by first | exact bnd h_p2 (by decide) (by decide) | exact ⟨by fail, by fail⟩)) ?_
        refine go_toq PM261 (k := 2) (pc' := 5) (L' := [some (.inr (.inr (some 46))), some (.inl p2), some (.inl (l5_2 + 1)), some (.inl 8)]) (st' := []) (w' := (SH, (u2 dt21 46 (l5_2).toNat p2))) rfl ?_
        exact GO.le (ih_loop25 (l5_2 + 1) (u2 dt21 46 (l5_2).toNat p2) hI30 hF31 (by first | exact bndp i24 (by decide) (by decide) | exact bnde i24 c29 (by decide) (by decide) | fail) (by omega)) ⟨.inl rfl, .inl rfl, .inl rfl, .inl rfl, trivial⟩
  exact GO.le (loop25 _ 0 dt hI hF ⟨by decide, by decide⟩ (Nat.lt_succ_self _)) ⟨.inl rfl, .inl rfl, .inl rfl, .inl rfl, trivial⟩
theorem sp_J7_fill_53178_47 (L : Nat) (xs : Nat → Int32) (sio : Option Nat) (d : Nat) (dt : Nat → Nat → Int) (hI : InvC dt)  (p2 : Int) (h_p2 : (-2147483648) ≤ p2 ∧ p2 ≤ 2147483647)  : GO (am_XX L xs sio) (d) 261 0 [some (.inr (.inr (some 47))), some (.inl p2), none, none] [] (SH, dt) (fun r w2 => ∃ dt2 : Nat → Nat → Int, w2 = (SH, dt2) ∧ InvC dt2 ∧ Fr [47] dt dt2 ∧ ((r = none ∧ True))) := by
  have hF : Fr [47] dt dt := Fr_refl
  refine go_toq PM261 (k := 5) (pc' := 5) (L' := [some (.inr (.inr (some 47))), some (.inl p2), some (.inl 0), some (.inl 3)]) (st' := []) (w' := (SH, dt)) rfl ?_
  have loop25 : ∀ (k_ : Nat) (l5_2 : Int) (dt21 : Nat → Nat → Int) (hI22 : InvC dt21) (hF23 : Fr [47] dt dt21) (i24 : 0 ≤ l5_2 ∧ l5_2 ≤ 3), (4 - l5_2).toNat < k_ → GO (am_XX L xs sio) (d) 261 5 [some (.inr (.inr (some 47))), some (.inl p2), some (.inl l5_2), some (.inl 3)] [] (SH, dt21) (fun r w2 => ∃ dt2 : Nat → Nat → Int, w2 = (SH, dt2) ∧ InvC dt2 ∧ Fr [47] dt dt2 ∧ ((r = none ∧ True))) := by
    intro k_
    induction k_ with
    | zero => intro l5_2 dt21 hI22 hF23 i24 hm; exact absurd hm (Nat.not_lt_zero _)
    | succ k_ ih_loop25 =>
      intro l5_2 dt21 hI22 hF23 i24 hm
      refine go_ifq PM261 (k := 2) (p1 := 20) (p2 := 10) (L' := [some (.inr (.inr (some 47))), some (.inl p2), some (.inl l5_2), some (.inl 3)]) (st' := []) (w' := (SH, dt21)) rfl (c_ge (a := l5_2) (b := 3) (by first | exact bnd i24 (by decide) (by decide) | exact ⟨by fail, by fail⟩) ⟨by decide, by decide⟩) (fun c29 => ?_) (fun c29 => ?_)
      · skip
        refine go_retq PM261 (k := 0) (r := none) (w1 := (SH, dt21)) rfl ?_
        exact ⟨dt21, rfl, hI22, hF23, ⟨rfl, trivial⟩⟩
      · skip
        refine go_toq PM261 (k := 3) (pc' := 13) (L' := [some (.inr (.inr (some 47))), some (.inl p2), some (.inl l5_2), some (.inl 3)]) (st' := [.inl p2, .inl l5_2, .inr (.inr (some 47))]) (w' := (SH, dt21)) rfl ?_
        have hI30 : InvC (u2 dt21 47 (l5_2).toNat p2) := InvC_u2 hI22 (lo := -2147483648) (hi := 2147483647) rfl rfl rfl (by first | exact bnd1 h_p2 (by decide) | fail) (by first | exact bnd2 h_p2 (by decide) | fail)
        have hF31 : Fr [47] dt (u2 dt21 47 (l5_2).toNat p2) := Fr_u2 hF23 (by decide)
        refine go_smpq PM261 (L' := [some (.inr (.inr (some 47))), some (.inl p2), some (.inl l5_2), some (.inl 3)]) (st' := []) (w' := (SH, (u2 dt21 47 (l5_2).toNat p2))) rfl rfl (s_iast (n := 3) rfl (by first | exact bndc i24 c29 (by decide) (by decide) | exact bndx i24 (by decide) (by decide) | exact ⟨by fail, by fail⟩) (by first | exact bnd h_p2 (by decide) (by decide) | exact ⟨by fail, by fail⟩)) ?_
        refine go_toq PM261 (k := 2) (pc' := 5) (L' := [some (.inr (.inr (some 47))), some (.inl p2), some (.inl (l5_2 + 1)), some (.inl 3)]) (st' := []) (w' := (SH, (u2 dt21 47 (l5_2).toNat p2))) rfl ?_
        exact GO.le (ih_loop25 (l5_2 + 1) (u2 dt21 47 (l5_2).toNat p2) hI30 hF31 (by first | exact bndp i24 (by decide) (by decide) | exact bnde i24 c29 (by decide) (by decide) | fail) (by omega)) ⟨.inl rfl, .inl rfl, .inl rfl, .inl rfl, trivial⟩
  exact GO.le (loop25 _ 0 dt hI hF ⟨by decide, by decide⟩ (Nat.lt_succ_self _)) ⟨.inl rfl, .inl rfl, .inl rfl, .inl rfl, trivial⟩
theorem sp_J7_fill_53178_48 (L : Nat) (xs : Nat → Int32) (sio : Option Nat) (d : Nat) (dt : Nat → Nat → Int) (hI : InvC dt)  (p2 : Int) (h_p2 : (-2147483648) ≤ p2 ∧ p2 ≤ 2147483647)  : GO (am_XX L xs sio) (d) 261 0 [some (.inr (.inr (some 48))), some (.inl p2), none, none] [] (SH, dt) (fun r w2 => ∃ dt2 : Nat → Nat → Int, w2 = (SH, dt2) ∧ InvC dt2 ∧ Fr [48] dt dt2 ∧ ((r = none ∧ True))) := by
  have hF : Fr [48] dt dt := Fr_refl
  refine go_toq PM261 (k := 5) (pc' := 5) (L' := [some (.inr (.inr (some 48))), some (.inl p2), some (.inl 0), some (.inl 3)]) (st' := []) (w' := (SH, dt)) rfl ?_
  have loop25 : ∀ (k_ : Nat) (l5_2 : Int) (dt21 : Nat → Nat → Int) (hI22 : InvC dt21) (hF23 : Fr [48] dt dt21) (i24 : 0 ≤ l5_2 ∧ l5_2 ≤ 3), (4 - l5_2).toNat < k_ → GO (am_XX L xs sio) (d) 261 5 [some (.inr (.inr (some 48))), some (.inl p2), some (.inl l5_2), some (.inl 3)] [] (SH, dt21) (fun r w2 => ∃ dt2 : Nat → Nat → Int, w2 = (SH, dt2) ∧ InvC dt2 ∧ Fr [48] dt dt2 ∧ ((r = none ∧ True))) := by
    intro k_
    induction k_ with
    | zero => intro l5_2 dt21 hI22 hF23 i24 hm; exact absurd hm (Nat.not_lt_zero _)
    | succ k_ ih_loop25 =>
      intro l5_2 dt21 hI22 hF23 i24 hm
      refine go_ifq PM261 (k := 2) (p1 := 20) (p2 := 10) (L' := [some (.inr (.inr (some 48))), some (.inl p2), some (.inl l5_2), some (.inl 3)]) (st' := []) (w' := (SH, dt21)) rfl (c_ge (a := l5_2) (b := 3) (by first | exact bnd i24 (by decide) (by decide) | exact ⟨by fail, by fail⟩) ⟨by decide, by decide⟩) (fun c29 => ?_) (fun c29 => ?_)
      · skip
        refine go_retq PM261 (k := 0) (r := none) (w1 := (SH, dt21)) rfl ?_
        exact ⟨dt21, rfl, hI22, hF23, ⟨rfl, trivial⟩⟩
      · skip
        refine go_toq PM261 (k := 3) (pc' := 13) (L' := [some (.inr (.inr (some 48))), some (.inl p2), some (.inl l5_2), some (.inl 3)]) (st' := [.inl p2, .inl l5_2, .inr (.inr (some 48))]) (w' := (SH, dt21)) rfl ?_
        have hI30 : InvC (u2 dt21 48 (l5_2).toNat p2) := InvC_u2 hI22 (lo := -2147483648) (hi := 2147483647) rfl rfl rfl (by first | exact bnd1 h_p2 (by decide) | fail) (by first | exact bnd2 h_p2 (by decide) | fail)
        have hF31 : Fr [48] dt (u2 dt21 48 (l5_2).toNat p2) := Fr_u2 hF23 (by decide)
        refine go_smpq PM261 (L' := [some (.inr (.inr (some 48))), some (.inl p2), some (.inl l5_2), some (.inl 3)]) (st' := []) (w' := (SH, (u2 dt21 48 (l5_2).toNat p2))) rfl rfl (s_iast (n := 3) rfl (by first | exact bndc i24 c29 (by decide) (by decide) | exact bndx i24 (by decide) (by decide) | exact ⟨by fail, by fail⟩) (by first | exact bnd h_p2 (by decide) (by decide) | exact ⟨by fail, by fail⟩)) ?_
        refine go_toq PM261 (k := 2) (pc' := 5) (L' := [some (.inr (.inr (some 48))), some (.inl p2), some (.inl (l5_2 + 1)), some (.inl 3)]) (st' := []) (w' := (SH, (u2 dt21 48 (l5_2).toNat p2))) rfl ?_
        exact GO.le (ih_loop25 (l5_2 + 1) (u2 dt21 48 (l5_2).toNat p2) hI30 hF31 (by first | exact bndp i24 (by decide) (by decide) | exact bnde i24 c29 (by decide) (by decide) | fail) (by omega)) ⟨.inl rfl, .inl rfl, .inl rfl, .inl rfl, trivial⟩
  exact GO.le (loop25 _ 0 dt hI hF ⟨by decide, by decide⟩ (Nat.lt_succ_self _)) ⟨.inl rfl, .inl rfl, .inl rfl, .inl rfl, trivial⟩
theorem sp_J7_fill_53178_49 (L : Nat) (xs : Nat → Int32) (sio : Option Nat) (d : Nat) (dt : Nat → Nat → Int) (hI : InvC dt)  (p2 : Int) (h_p2 : (-2147483648) ≤ p2 ∧ p2 ≤ 2147483647)  : GO (am_XX L xs sio) (d) 261 0 [some (.inr (.inr (some 49))), some (.inl p2), none, none] [] (SH, dt) (fun r w2 => ∃ dt2 : Nat → Nat → Int, w2 = (SH, dt2) ∧ InvC dt2 ∧ Fr [49] dt dt2 ∧ ((r = none ∧ True))) := by
  have hF : Fr [49] dt dt := Fr_refl
  refine go_toq PM261 (k := 5) (pc' := 5) (L' := [some (.inr (.inr (some 49))), some (.inl p2), some (.inl 0), some (.inl 3)]) (st' := []) (w' := (SH, dt)) rfl ?_
  have loop25 : ∀ (k_ : Nat) (l5_2 : Int) (dt21 : Nat → Nat → Int) (hI22 : InvC dt21) (hF23 : Fr [49] dt dt21) (i24 : 0 ≤ l5_2 ∧ l5_2 ≤ 3), (4 - l5_2).toNat < k_ → GO (am_XX L xs sio) (d) 261 5 [some (.inr (.inr (some 49))), some (.inl p2), some (.inl l5_2), some (.inl 3)] [] (SH, dt21) (fun r w2 => ∃ dt2 : Nat → Nat → Int, w2 = (SH, dt2) ∧ InvC dt2 ∧ Fr [49] dt dt2 ∧ ((r = none ∧ True))) := by
    intro k_
    induction k_ with
    | zero => intro l5_2 dt21 hI22 hF23 i24 hm; exact absurd hm (Nat.not_lt_zero _)
    | succ k_ ih_loop25 =>
      intro l5_2 dt21 hI22 hF23 i24 hm
      refine go_ifq PM261 (k := 2) (p1 := 20) (p2 := 10) (L' := [some (.inr (.inr (some 49))), some (.inl p2), some (.inl l5_2), some (.inl 3)]) (st' := []) (w' := (SH, dt21)) rfl (c_ge (a := l5_2) (b := 3) (by first | exact bnd i24 (by decide) (by decide) | exact ⟨by fail, by fail⟩) ⟨by decide, by decide⟩) (fun c29 => ?_) (fun c29 => ?_)
      · skip
        refine go_retq PM261 (k := 0) (r := none) (w1 := (SH, dt21)) rfl ?_
        exact ⟨dt21, rfl, hI22, hF23, ⟨rfl, trivial⟩⟩
      · skip
        refine go_toq PM261 (k := 3) (pc' := 13) (L' := [some (.inr (.inr (some 49))), some (.inl p2), some (.inl l5_2), some (.inl 3)]) (st' := [.inl p2, .inl l5_2, .inr (.inr (some 49))]) (w' := (SH, dt21)) rfl ?_
        have hI30 : InvC (u2 dt21 49 (l5_2).toNat p2) := InvC_u2 hI22 (lo := -2147483648) (hi := 2147483647) rfl rfl rfl (by first | exact bnd1 h_p2 (by decide) | fail) (by first | exact bnd2 h_p2 (by decide) | fail)
        have hF31 : Fr [49] dt (u2 dt21 49 (l5_2).toNat p2) := Fr_u2 hF23 (by decide)
        refine go_smpq PM261 (L' := [some (.inr (.inr (some 49))), some (.inl p2), some (.inl l5_2), some (.inl 3)]) (st' := []) (w' := (SH, (u2 dt21 49 (l5_2).toNat p2))) rfl rfl (s_iast (n := 3) rfl (by first | exact bndc i24 c29 (by decide) (by decide) | exact bndx i24 (by decide) (by decide) | exact ⟨by fail, by fail⟩) (by first | exact bnd h_p2 (by decide) (by decide) | exact ⟨by fail, by fail⟩)) ?_
        refine go_toq PM261 (k := 2) (pc' := 5) (L' := [some (.inr (.inr (some 49))), some (.inl p2), some (.inl (l5_2 + 1)), some (.inl 3)]) (st' := []) (w' := (SH, (u2 dt21 49 (l5_2).toNat p2))) rfl ?_
        exact GO.le (ih_loop25 (l5_2 + 1) (u2 dt21 49 (l5_2).toNat p2) hI30 hF31 (by first | exact bndp i24 (by decide) (by decide) | exact bnde i24 c29 (by decide) (by decide) | fail) (by omega)) ⟨.inl rfl, .inl rfl, .inl rfl, .inl rfl, trivial⟩
  exact GO.le (loop25 _ 0 dt hI hF ⟨by decide, by decide⟩ (Nat.lt_succ_self _)) ⟨.inl rfl, .inl rfl, .inl rfl, .inl rfl, trivial⟩
theorem sp_J7_fill_53178_50 (L : Nat) (xs : Nat → Int32) (sio : Option Nat) (d : Nat) (dt : Nat → Nat → Int) (hI : InvC dt)  (p2 : Int) (h_p2 : (-2147483648) ≤ p2 ∧ p2 ≤ 2147483647)  : GO (am_XX L xs sio) (d) 261 0 [some (.inr (.inr (some 50))), some (.inl p2), none, none] [] (SH, dt) (fun r w2 => ∃ dt2 : Nat → Nat → Int, w2 = (SH, dt2) ∧ InvC dt2 ∧ Fr [50] dt dt2 ∧ ((r = none ∧ True))) := by
  have hF : Fr [50] dt dt := Fr_refl
  refine go_toq PM261 (k := 5) (pc' := 5) (L' := [some (.inr (.inr (some 50))), some (.inl p2), some (.inl 0), some (.inl 3)]) (st' := []) (w' := (SH, dt)) rfl ?_
  have loop25 : ∀ (k_ : Nat) (l5_2 : Int) (dt21 : Nat → Nat → Int) (hI22 : InvC dt21) (hF23 : Fr [50] dt dt21) (i24 : 0 ≤ l5_2 ∧ l5_2 ≤ 3), (4 - l5_2).toNat < k_ → GO (am_XX L xs sio) (d) 261 5 [some (.inr (.inr (some 50))), some (.inl p2), some (.inl l5_2), some (.inl 3)] [] (SH, dt21) (fun r w2 => ∃ dt2 : Nat → Nat → Int, w2 = (SH, dt2) ∧ InvC dt2 ∧ Fr [50] dt dt2 ∧ ((r = none ∧ True))) := by
    intro k_
    induction k_ with
    | zero => intro l5_2 dt21 hI22 hF23 i24 hm; exact absurd hm (Nat.not_lt_zero _)
    | succ k_ ih_loop25 =>
      intro l5_2 dt21 hI22 hF23 i24 hm
      refine go_ifq PM261 (k := 2) (p1 := 20) (p2 := 10) (L' := [some (.inr (.inr (some 50))), some (.inl p2), some (.inl l5_2), some (.inl 3)]) (st' := []) (w' := (SH, dt21)) rfl (c_ge (a := l5_2) (b := 3) (by first | exact bnd i24 (by decide) (by decide) | exact ⟨by fail, by fail⟩) ⟨by decide, by decide⟩) (fun c29 => ?_) (fun c29 => ?_)
      · skip
        refine go_retq PM261 (k := 0) (r := none) (w1 := (SH, dt21)) rfl ?_
        exact ⟨dt21, rfl, hI22, hF23, ⟨rfl, trivial⟩⟩
      · skip
        refine go_toq PM261 (k := 3) (pc' := 13) (L' := [some (.inr (.inr (some 50))), some (.inl p2), some (.inl l5_2), some (.inl 3)]) (st' := [.inl p2, .inl l5_2, .inr (.inr (some 50))]) (w' := (SH, dt21)) rfl ?_
        have hI30 : InvC (u2 dt21 50 (l5_2).toNat p2) := InvC_u2 hI22 (lo := -2147483648) (hi := 2147483647) rfl rfl rfl (by first | exact bnd1 h_p2 (by decide) | fail) (by first | exact bnd2 h_p2 (by decide) | fail)
        have hF31 : Fr [50] dt (u2 dt21 50 (l5_2).toNat p2) := Fr_u2 hF23 (by decide)
        refine go_smpq PM261 (L' := [some (.inr (.inr (some 50))), some (.inl p2), some (.inl l5_2), some (.inl 3)]) (st' := []) (w' := (SH, (u2 dt21 50 (l5_2).toNat p2))) rfl rfl (s_iast (n := 3) rfl (by first | exact bndc i24 c29 (by decide) (by decide) | exact bndx i24 (by decide) (by decide) | exact ⟨by fail, by fail⟩) (by first | exact bnd h_p2 (by decide) (by decide) | exact ⟨by fail, by fail⟩)) ?_
        refine go_toq PM261 (k := 2) (pc' := 5) (L' := [some (.inr (.inr (some 50))), some (.inl p2), some (.inl (l5_2 + 1)), some (.inl 3)]) (st' := []) (w' := (SH, (u2 dt21 50 (l5_2).toNat p2))) rfl ?_
        exact GO.le (ih_loop25 (l5_2 + 1) (u2 dt21 50 (l5_2).toNat p2) hI30 hF31 (by first | exact bndp i24 (by decide) (by decide) | exact bnde i24 c29 (by decide) (by decide) | fail) (by omega)) ⟨.inl rfl, .inl rfl, .inl rfl, .inl rfl, trivial⟩
  exact GO.le (loop25 _ 0 dt hI hF ⟨by decide, by decide⟩ (Nat.lt_succ_self _)) ⟨.inl rfl, .inl rfl, .inl rfl, .inl rfl, trivial⟩
theorem sp_J7_fill_53178_51 (L : Nat) (xs : Nat → Int32) (sio : Option Nat) (d : Nat) (dt : Nat → Nat → Int) (hI : InvC dt)  (p2 : Int) (h_p2 : (-2147483648) ≤ p2 ∧ p2 ≤ 2147483647)  : GO (am_XX L xs sio) (d) 261 0 [some (.inr (.inr (some 51))), some (.inl p2), none, none] [] (SH, dt) (fun r w2 => ∃ dt2 : Nat → Nat → Int, w2 = (SH, dt2) ∧ InvC dt2 ∧ Fr [51] dt dt2 ∧ ((r = none ∧ True))) := by
  have hF : Fr [51] dt dt := Fr_refl
  refine go_toq PM261 (k := 5) (pc' := 5) (L' := [some (.inr (.inr (some 51))), some (.inl p2), some (.inl 0), some (.inl 6)]) (st' := []) (w' := (SH, dt)) rfl ?_
  have loop25 : ∀ (k_ : Nat) (l5_2 : Int) (dt21 : Nat → Nat → Int) (hI22 : InvC dt21) (hF23 : Fr [51] dt dt21) (i24 : 0 ≤ l5_2 ∧ l5_2 ≤ 6), (7 - l5_2).toNat < k_ → GO (am_XX L xs sio) (d) 261 5 [some (.inr (.inr (some 51))), some (.inl p2), some (.inl l5_2), some (.inl 6)] [] (SH, dt21) (fun r w2 => ∃ dt2 : Nat → Nat → Int, w2 = (SH, dt2) ∧ InvC dt2 ∧ Fr [51] dt dt2 ∧ ((r = none ∧ True))) := by
    intro k_
    induction k_ with
    | zero => intro l5_2 dt21 hI22 hF23 i24 hm; exact absurd hm (Nat.not_lt_zero _)
    | succ k_ ih_loop25 =>
      intro l5_2 dt21 hI22 hF23 i24 hm
      refine go_ifq PM261 (k := 2) (p1 := 20) (p2 := 10) (L' := [some (.inr (.inr (some 51))), some (.inl p2), some (.inl l5_2), some (.inl 6)]) (st' := []) (w' := (SH, dt21)) rfl (c_ge (a := l5_2) (b := 6) (by first | exact bnd i24 (by decide) (by decide) | exact ⟨by fail, by fail⟩) ⟨by decide, by decide⟩) (fun c29 => ?_) (fun c29 => ?_)
      · skip
        refine go_retq PM261 (k := 0) (r := none) (w1 := (SH, dt21)) rfl ?_
        exact ⟨dt21, rfl, hI22, hF23, ⟨rfl, trivial⟩⟩
      · skip
        refine go_toq PM261 (k := 3) (pc' := 13) (L' := [some (.inr (.inr (some 51))), some (.inl p2), some (.inl l5_2), some (.inl 6)]) (st' := [.inl p2, .inl l5_2, .inr (.inr (some 51))]) (w' := (SH, dt21)) rfl ?_
        have hI30 : InvC (u2 dt21 51 (l5_2).toNat p2) := InvC_u2 hI22 (lo := -2147483648) (hi := 2147483647) rfl rfl rfl (by first | exact bnd1 h_p2 (by decide) | fail) (by first | exact bnd2 h_p2 (by decide) | fail)
        have hF31 : Fr [51] dt (u2 dt21 51 (l5_2).toNat p2) := Fr_u2 hF23 (by decide)
        refine go_smpq PM261 (L' := [some (.inr (.inr (some 51))), some (.inl p2), some (.inl l5_2), some (.inl 6)]) (st' := []) (w' := (SH, (u2 dt21 51 (l5_2).toNat p2))) rfl rfl (s_iast (n := 6) rfl (by first | exact bndc i24 c29 (by decide) (by decide) | exact bndx i24 (by decide) (by decide) | exact ⟨by fail, by fail⟩) (by first | exact bnd h_p2 (by decide) (by decide) | exact ⟨by fail, by fail⟩)) ?_
        refine go_toq PM261 (k := 2) (pc' := 5) (L' := [some (.inr (.inr (some 51))), some (.inl p2), some (.inl (l5_2 + 1)), some (.inl 6)]) (st' := []) (w' := (SH, (u2 dt21 51 (l5_2).toNat p2))) rfl ?_
        exact GO.le (ih_loop25 (l5_2 + 1) (u2 dt21 51 (l5_2).toNat p2) hI30 hF31 (by first | exact bndp i24 (by decide) (by decide) | exact bnde i24 c29 (by decide) (by decide) | fail) (by omega)) ⟨.inl rfl, .inl rfl, .inl rfl, .inl rfl, trivial⟩
  exact GO.le (loop25 _ 0 dt hI hF ⟨by decide, by decide⟩ (Nat.lt_succ_self _)) ⟨.inl rfl, .inl rfl, .inl rfl, .inl rfl, trivial⟩
theorem sp_J7_fill_53178_52 (L : Nat) (xs : Nat → Int32) (sio : Option Nat) (d : Nat) (dt : Nat → Nat → Int) (hI : InvC dt)  (p2 : Int) (h_p2 : (-2147483648) ≤ p2 ∧ p2 ≤ 2147483647)  : GO (am_XX L xs sio) (d) 261 0 [some (.inr (.inr (some 52))), some (.inl p2), none, none] [] (SH, dt) (fun r w2 => ∃ dt2 : Nat → Nat → Int, w2 = (SH, dt2) ∧ InvC dt2 ∧ Fr [52] dt dt2 ∧ ((r = none ∧ True))) := by
  have hF : Fr [52] dt dt := Fr_refl
  refine go_toq PM261 (k := 5) (pc' := 5) (L' := [some (.inr (.inr (some 52))), some (.inl p2), some (.inl 0), some (.inl 12)]) (st' := []) (w' := (SH, dt)) rfl ?_
  have loop25 : ∀ (k_ : Nat) (l5_2 : Int) (dt21 : Nat → Nat → Int) (hI22 : InvC dt21) (hF23 : Fr [52] dt dt21) (i24 : 0 ≤ l5_2 ∧ l5_2 ≤ 12), (13 - l5_2).toNat < k_ → GO (am_XX L xs sio) (d) 261 5 [some (.inr (.inr (some 52))), some (.inl p2), some (.inl l5_2), some (.inl 12)] [] (SH, dt21) (fun r w2 => ∃ dt2 : Nat → Nat → Int, w2 = (SH, dt2) ∧ InvC dt2 ∧ Fr [52] dt dt2 ∧ ((r = none ∧ True))) := by
    intro k_
    induction k_ with
    | zero => intro l5_2 dt21 hI22 hF23 i24 hm; exact absurd hm (Nat.not_lt_zero _)
    | succ k_ ih_loop25 =>
      intro l5_2 dt21 hI22 hF23 i24 hm
      refine go_ifq PM261 (k := 2) (p1 := 20) (p2 := 10) (L' := [some (.inr (.inr (some 52))), some (.inl p2), some (.inl l5_2), some (.inl 12)]) (st' := []) (w' := (SH, dt21)) rfl (c_ge (a := l5_2) (b := 12) (by first | exact bnd i24 (by decide) (by decide) | exact ⟨by fail, by fail⟩) ⟨by decide, by decide⟩) (fun c29 => ?_) (fun c29 => ?_)
      · skip
        refine go_retq PM261 (k := 0) (r := none) (w1 := (SH, dt21)) rfl ?_
        exact ⟨dt21, rfl, hI22, hF23, ⟨rfl, trivial⟩⟩
      · skip
        refine go_toq PM261 (k := 3) (pc' := 13) (L' := [some (.inr (.inr (some 52))), some (.inl p2), some (.inl l5_2), some (.inl 12)]) (st' := [.inl p2, .inl l5_2, .inr (.inr (some 52))]) (w' := (SH, dt21)) rfl ?_
        have hI30 : InvC (u2 dt21 52 (l5_2).toNat p2) := InvC_u2 hI22 (lo := -2147483648) (hi := 2147483647) rfl rfl rfl (by first | exact bnd1 h_p2 (by decide) | fail) (by first | exact bnd2 h_p2 (by decide) | fail)
        have hF31 : Fr [52] dt (u2 dt21 52 (l5_2).toNat p2) := Fr_u2 hF23 (by decide)
        refine go_smpq PM261 (L' := [some (.inr (.inr (some 52))), some (.inl p2), some (.inl l5_2), some (.inl 12)]) (st' := []) (w' := (SH, (u2 dt21 52 (l5_2).toNat p2))) rfl rfl (s_iast (n := 12) rfl (by first | exact bndc i24 c29 (by decide) (by decide) | exact bndx i24 (by decide) (by decide) | exact ⟨by fail, by fail⟩) (by first | exact bnd h_p2 (by decide) (by decide) | exact ⟨by fail, by fail⟩)) ?_
        refine go_toq PM261 (k := 2) (pc' := 5) (L' := [some (.inr (.inr (some 52))), some (.inl p2), some (.inl (l5_2 + 1)), some (.inl 12)]) (st' := []) (w' := (SH, (u2 dt21 52 (l5_2).toNat p2))) rfl ?_
        exact GO.le (ih_loop25 (l5_2 + 1) (u2 dt21 52 (l5_2).toNat p2) hI30 hF31 (by first | exact bndp i24 (by decide) (by decide) | exact bnde i24 c29 (by decide) (by decide) | fail) (by omega)) ⟨.inl rfl, .inl rfl, .inl rfl, .inl rfl, trivial⟩
  exact GO.le (loop25 _ 0 dt hI hF ⟨by decide, by decide⟩ (Nat.lt_succ_self _)) ⟨.inl rfl, .inl rfl, .inl rfl, .inl rfl, trivial⟩
theorem sp_J7_fill_53178_53 (L : Nat) (xs : Nat → Int32) (sio : Option Nat) (d : Nat) (dt : Nat → Nat → Int) (hI : InvC dt)  (p2 : Int) (h_p2 : (-2147483648) ≤ p2 ∧ p2 ≤ 2147483647)  : GO (am_XX L xs sio) (d) 261 0 [some (.inr (.inr (some 53))), some (.inl p2), none, none] [] (SH, dt) (fun r w2 => ∃ dt2 : Nat → Nat → Int, w2 = (SH, dt2) ∧ InvC dt2 ∧ Fr [53] dt dt2 ∧ ((r = none ∧ True))) := by
  have hF : Fr [53] dt dt := Fr_refl
  refine go_toq PM261 (k := 5) (pc' := 5) (L' := [some (.inr (.inr (some 53))), some (.inl p2), some (.inl 0), some (.inl 12)]) (st' := []) (w' := (SH, dt)) rfl ?_
  have loop25 : ∀ (k_ : Nat) (l5_2 : Int) (dt21 : Nat → Nat → Int) (hI22 : InvC dt21) (hF23 : Fr [53] dt dt21) (i24 : 0 ≤ l5_2 ∧ l5_2 ≤ 12), (13 - l5_2).toNat < k_ → GO (am_XX L xs sio) (d) 261 5 [some (.inr (.inr (some 53))), some (.inl p2), some (.inl l5_2), some (.inl 12)] [] (SH, dt21) (fun r w2 => ∃ dt2 : Nat → Nat → Int, w2 = (SH, dt2) ∧ InvC dt2 ∧ Fr [53] dt dt2 ∧ ((r = none ∧ True))) := by
    intro k_
    induction k_ with
    | zero => intro l5_2 dt21 hI22 hF23 i24 hm; exact absurd hm (Nat.not_lt_zero _)
    | succ k_ ih_loop25 =>
      intro l5_2 dt21 hI22 hF23 i24 hm
      refine go_ifq PM261 (k := 2) (p1 := 20) (p2 := 10) (L' := [some (.inr (.inr (some 53))), some (.inl p2), some (.inl l5_2), some (.inl 12)]) (st' := []) (w' := (SH, dt21)) rfl (c_ge (a := l5_2) (b := 12) (by first | exact bnd i24 (by decide) (by decide) | exact ⟨by fail, by fail⟩) ⟨by decide, by decide⟩) (fun c29 => ?_) (fun c29 => ?_)
      · skip
        refine go_retq PM261 (k := 0) (r := none) (w1 := (SH, dt21)) rfl ?_
        exact ⟨dt21, rfl, hI22, hF23, ⟨rfl, trivial⟩⟩
      · skip
        refine go_toq PM261 (k := 3) (pc' := 13) (L' := [some (.inr (.inr (some 53))), some (.inl p2), some (.inl l5_2), some (.inl 12)]) (st' := [.inl p2, .inl l5_2, .inr (.inr (some 53))]) (w' := (SH, dt21)) rfl ?_
        have hI30 : InvC (u2 dt21 53 (l5_2).toNat p2) := InvC_u2 hI22 (lo := -2147483648) (hi := 2147483647) rfl rfl rfl (by first | exact bnd1 h_p2 (by decide) | fail) (by first | exact bnd2 h_p2 (by decide) | fail)
        have hF31 : Fr [53] dt (u2 dt21 53 (l5_2).toNat p2) := Fr_u2 hF23 (by decide)
        refine go_smpq PM261 (L' := [some (.inr (.inr (some 53))), some (.inl p2), some (.inl l5_2), some (.inl 12)]) (st' := []) (w' := (SH, (u2 dt21 53 (l5_2).toNat p2))) rfl rfl (s_iast (n := 12) rfl (by first | exact bndc i24 c29 (by decide) (by decide) | exact bndx i24 (by decide) (by decide) | exact ⟨by fail, by fail⟩) (by first | exact bnd h_p2 (by decide) (by decide) | exact ⟨by fail, by fail⟩)) ?_
        refine go_toq PM261 (k := 2) (pc' := 5) (L' := [some (.inr (.inr (some 53))), some (.inl p2), some (.inl (l5_2 + 1)), some (.inl 12)]) (st' := []) (w' := (SH, (u2 dt21 53 (l5_2).toNat p2))) rfl ?_
        exact GO.le (ih_loop25 (l5_2 + 1) (u2 dt21 53 (l5_2).toNat p2) hI30 hF31 (by first | exact bndp i24 (by decide) (by decide) | exact bnde i24 c29 (by decide) (by decide) | fail) (by omega)) ⟨.inl rfl, .inl rfl, .inl rfl, .inl rfl, trivial⟩
  exact GO.le (loop25 _ 0 dt hI hF ⟨by decide, by decide⟩ (Nat.lt_succ_self _)) ⟨.inl rfl, .inl rfl, .inl rfl, .inl rfl, trivial⟩
theorem sp_J7_fill_53178_54 (L : Nat) (xs : Nat → Int32) (sio : Option Nat) (d : Nat) (dt : Nat → Nat → Int) (hI : InvC dt)  (p2 : Int) (h_p2 : (-2147483648) ≤ p2 ∧ p2 ≤ 2147483647)  : GO (am_XX L xs sio) (d) 261 0 [some (.inr (.inr (some 54))), some (.inl p2), none, none] [] (SH, dt) (fun r w2 => ∃ dt2 : Nat → Nat → Int, w2 = (SH, dt2) ∧ InvC dt2 ∧ Fr [54] dt dt2 ∧ ((r = none ∧ True))) := by
  have hF : Fr [54] dt dt := Fr_refl
  refine go_toq PM261 (k := 5) (pc' := 5) (L' := [some (.inr (.inr (some 54))), some (.inl p2), some (.inl 0), some (.inl 12)]) (st' := []) (w' := (SH, dt)) rfl ?_
  have loop25 : ∀ (k_ : Nat) (l5_2 : Int) (dt21 : Nat → Nat → Int) (hI22 : InvC dt21) (hF23 : Fr [54] dt dt21) (i24 : 0 ≤ l5_2 ∧ l5_2 ≤ 12), (13 - l5_2).toNat < k_ → GO (am_XX L xs sio) (d) 261 5 [some (.inr (.inr (some 54))), some (.inl p2), some (.inl l5_2), some (.inl 12)] [] (SH, dt21) (fun r w2 => ∃ dt2 : Nat → Nat → Int, w2 = (SH, dt2) ∧ InvC dt2 ∧ Fr [54] dt dt2 ∧ ((r = none ∧ True))) := by
    intro k_
    induction k_ with
    | zero => intro l5_2 dt21 hI22 hF23 i24 hm; exact absurd hm (Nat.not_lt_zero _)
    | succ k_ ih_loop25 =>
      intro l5_2 dt21 hI22 hF23 i24 hm
      refine go_ifq PM261 (k := 2) (p1 := 20) (p2 := 10) (L' := [some (.inr (.inr (some 54))), some (.inl p2), some (.inl l5_2), some (.inl 12)]) (st' := []) (w' := (SH, dt21)) rfl (c_ge (a := l5_2) (b := 12) (by first | exact bnd i24 (by decide) (by decide) | exact ⟨by fail, by fail⟩) ⟨by decide, by decide⟩) (fun c29 => ?_) (fun c29 => ?_)
      · skip
        refine go_retq PM261 (k := 0) (r := none) (w1 := (SH, dt21)) rfl ?_
        exact ⟨dt21, rfl, hI22, hF23, ⟨rfl, trivial⟩⟩
      · skip
        refine go_toq PM261 (k := 3) (pc' := 13) (L' := [some (.inr (.inr (some 54))), some (.inl p2), some (.inl l5_2), some (.inl 12)]) (st' := [.inl p2, .inl l5_2, .inr (.inr (some 54))]) (w' := (SH, dt21)) rfl ?_
        have hI30 : InvC (u2 dt21 54 (l5_2).toNat p2) := InvC_u2 hI22 (lo := -2147483648) (hi := 2147483647) rfl rfl rfl (by first | exact bnd1 h_p2 (by decide) | fail) (by first | exact bnd2 h_p2 (by decide) | fail)
        have hF31 : Fr [54] dt (u2 dt21 54 (l5_2).toNat p2) := Fr_u2 hF23 (by decide)
        refine go_smpq PM261 (L' := [some (.inr (.inr (some 54))), some (.inl p2), some (.inl l5_2), some (.inl 12)]) (st' := []) (w' := (SH, (u2 dt21 54 (l5_2).toNat p2))) rfl rfl (s_iast (n := 12) rfl (by first | exact bndc i24 c29 (by decide) (by decide) | exact bndx i24 (by decide) (by decide) | exact ⟨by fail, by fail⟩) (by first | exact bnd h_p2 (by decide) (by decide) | exact ⟨by fail, by fail⟩)) ?_
        refine go_toq PM261 (k := 2) (pc' := 5) (L' := [some (.inr (.inr (some 54))), some (.inl p2), some (.inl (l5_2 + 1)), some (.inl 12)]) (st' := []) (w' := (SH, (u2 dt21 54 (l5_2).toNat p2))) rfl ?_
        exact GO.le (ih_loop25 (l5_2 + 1) (u2 dt21 54 (l5_2).toNat p2) hI30 hF31 (by first | exact bndp i24 (by decide) (by decide) | exact bnde i24 c29 (by decide) (by decide) | fail) (by omega)) ⟨.inl rfl, .inl rfl, .inl rfl, .inl rfl, trivial⟩
  exact GO.le (loop25 _ 0 dt hI hF ⟨by decide, by decide⟩ (Nat.lt_succ_self _)) ⟨.inl rfl, .inl rfl, .inl rfl, .inl rfl, trivial⟩
theorem sp_J7_fill_53178_55 (L : Nat) (xs : Nat → Int32) (sio : Option Nat) (d : Nat) (dt : Nat → Nat → Int) (hI : InvC dt)  (p2 : Int) (h_p2 : (-2147483648) ≤ p2 ∧ p2 ≤ 2147483647)  : GO (am_XX L xs sio) (d) 261 0 [some (.inr (.inr (some 55))), some (.inl p2), none, none] [] (SH, dt) (fun r w2 => ∃ dt2 : Nat → Nat → Int, w2 = (SH, dt2) ∧ InvC dt2 ∧ Fr [55] dt dt2 ∧ ((r = none ∧ True))) := by
  have hF : Fr [55] dt dt := Fr_refl
  refine go_toq PM261 (k := 5) (pc' := 5) (L' := [some (.inr (.inr (some 55))), some (.inl p2), some (.inl 0), some (.inl 12)]) (st' := []) (w' := (SH, dt)) rfl ?_
  have loop25 : ∀ (k_ : Nat) (l5_2 : Int) (dt21 : Nat → Nat → Int) (hI22 : InvC dt21) (hF23 : Fr [55] dt dt21) (i24 : 0 ≤ l5_2 ∧ l5_2 ≤ 12), (13 - l5_2).toNat < k_ → GO (am_XX L xs sio) (d) 261 5 [some (.inr (.inr (some 55))), some (.inl p2), some (.inl l5_2), some (.inl 12)] [] (SH, dt21) (fun r w2 => ∃ dt2 : Nat → Nat → Int, w2 = (SH, dt2) ∧ InvC dt2 ∧ Fr [55] dt dt2 ∧ ((r = none ∧ True))) := by
    intro k_
    induction k_ with
    | zero => intro l5_2 dt21 hI22 hF23 i24 hm; exact absurd hm (Nat.not_lt_zero _)
    | succ k_ ih_loop25 =>
      intro l5_2 dt21 hI22 hF23 i24 hm
      refine go_ifq PM261 (k := 2) (p1 := 20) (p2 := 10) (L' := [some (.inr (.inr (some 55))), some (.inl p2), some (.inl l5_2), some (.inl 12)]) (st' := []) (w' := (SH, dt21)) rfl (c_ge (a := l5_2) (b := 12) (by first | exact bnd i24 (by decide) (by decide) | exact ⟨by fail, by fail⟩) ⟨by decide, by decide⟩) (fun c29 => ?_) (fun c29 => ?_)
      · skip
        refine go_retq PM261 (k := 0) (r := none) (w1 := (SH, dt21)) rfl ?_
        exact ⟨dt21, rfl, hI22, hF23, ⟨rfl, trivial⟩⟩
      · skip
        refine go_toq PM261 (k := 3) (pc' := 13) (L' := [some (.inr (.inr (some 55))), some (.inl p2), some (.inl l5_2), some (.inl 12)]) (st' := [.inl p2, .inl l5_2, .inr (.inr (some 55))]) (w' := (SH, dt21)) rfl ?_
        have hI30 : InvC (u2 dt21 55 (l5_2).toNat p2) := InvC_u2 hI22 (lo := -2147483648) (hi := 2147483647) rfl rfl rfl (by first | exact bnd1 h_p2 (by decide) | fail) (by first | exact bnd2 h_p2 (by decide) | fail)
        have hF31 : Fr [55] dt (u2 dt21 55 (l5_2).toNat p2) := Fr_u2 hF23 (by decide)
        refine go_smpq PM261 (L' := [some (.inr (.inr (some 55))), some (.inl p2), some (.inl l5_2), some (.inl 12)]) (st' := []) (w' := (SH, (u2 dt21 55 (l5_2).toNat p2))) rfl rfl (s_iast (n := 12) rfl (by first | exact bndc i24 c29 (by decide) (by decide) | exact bndx i24 (by decide) (by decide) | exact ⟨by fail, by fail⟩) (by first | exact bnd h_p2 (by decide) (by decide) | exact ⟨by fail, by fail⟩)) ?_
        refine go_toq PM261 (k := 2) (pc' := 5) (L' := [some (.inr (.inr (some 55))), some (.inl p2), some (.inl (l5_2 + 1)), some (.inl 12)]) (st' := []) (w' := (SH, (u2 dt21 55 (l5_2).toNat p2))) rfl ?_
        exact GO.le (ih_loop25 (l5_2 + 1) (u2 dt21 55 (l5_2).toNat p2) hI30 hF31 (by first | exact bndp i24 (by decide) (by decide) | exact bnde i24 c29 (by decide) (by decide) | fail) (by omega)) ⟨.inl rfl, .inl rfl, .inl rfl, .inl rfl, trivial⟩
  exact GO.le (loop25 _ 0 dt hI hF ⟨by decide, by decide⟩ (Nat.lt_succ_self _)) ⟨.inl rfl, .inl rfl, .inl rfl, .inl rfl, trivial⟩
theorem sp_J7_fill_53178_56 (L : Nat) (xs : Nat → Int32) (sio : Option Nat) (d : Nat) (dt : Nat → Nat → Int) (hI : InvC dt)  (p2 : Int) (h_p2 : (-2147483648) ≤ p2 ∧ p2 ≤ 2147483647)  : GO (am_XX L xs sio) (d) 261 0 [some (.inr (.inr (some 56))), some (.inl p2), none, none] [] (SH, dt) (fun r w2 => ∃ dt2 : Nat → Nat → Int, w2 = (SH, dt2) ∧ InvC dt2 ∧ Fr [56] dt dt2 ∧ ((r = none ∧ True))) := by
  have hF : Fr [56] dt dt := Fr_refl
  refine go_toq PM261 (k := 5) (pc' := 5) (L' := [some (.inr (.inr (some 56))), some (.inl p2), some (.inl 0), some (.inl 48)]) (st' := []) (w' := (SH, dt)) rfl ?_
  have loop37 : ∀ (k_ : Nat) (l5_2 : Int) (dt33 : Nat → Nat → Int) (hI34 : InvC dt33) (hF35 : Fr [56] dt dt33) (i36 : 0 ≤ l5_2 ∧ l5_2 ≤ 48), (49 - l5_2).toNat < k_ → GO (am_XX L xs sio) (d) 261 5 [some (.inr (.inr (some 56))), some (.inl p2), some (.inl l5_2), some (.inl 48)] [] (SH, dt33) (fun r w2 => ∃ dt2 : Nat → Nat → Int, w2 = (SH, dt2) ∧ InvC dt2 ∧ Fr [56] dt dt2 ∧ ((r = none ∧ True))) := by
    intro k_
    induction k_ with
    | zero => intro l5_2 dt33 hI34 hF35 i36 hm; exact absurd hm (Nat.not_lt_zero _)
    | succ k_ ih_loop37 =>
      intro l5_2 dt33 hI34 hF35 i36 hm
      refine go_ifq PM261 (k := 2) (p1 := 20) (p2 := 10) (L' := [some (.inr (.inr (some 56))), some (.inl p2), some (.inl l5_2), some (.inl 48)]) (st' := []) (w' := (SH, dt33)) rfl (c_ge (a := l5_2) (b := 48) (by first | exact bnd i36 (by decide) (by decide) | exact ⟨by fail, by fail⟩) ⟨by decide, by decide⟩) (fun c41 => ?_) (fun c41 => ?_)
      · skip
        refine go_retq PM261 (k := 0) (r := none) (w1 := (SH, dt33)) rfl ?_
        exact ⟨dt33, rfl, hI34, hF35, ⟨rfl, trivial⟩⟩
      · skip
        refine go_toq PM261 (k := 3) (pc' := 13) (L' := [some (.inr (.inr (some 56))), some (.inl p2), some (.inl l5_2), some (.inl 48)]) (st' := [.inl p2, .inl l5_2, .inr (.inr (some 56))]) (w' := (SH, dt33)) rfl ?_
        have hI42 : InvC (u2 dt33 56 (l5_2).toNat p2) := InvC_u2 hI34 (lo := -2147483648) (hi := 2147483647) rfl rfl rfl (by first | exact bnd1 h_p2 (by decide) | fail) (by first | exact bnd2 h_p2 (by decide) | fail)
        have hF43 : Fr [56] dt (u2 dt33 56 (l5_2).toNat p2) := Fr_u2 hF35 (by decide)
        refine go_smpq PM261 (L' := [some (.inr (.inr (some 56))), some (.inl p2), some (.inl l5_2), some (.inl 48)]) (st' := []) (w' := (SH, (u2 dt33 56 (l5_2).toNat p2))) rfl rfl (s_iast (n := 48) rfl (by first | exact bndc i36 c41 (by decide) (by decide) | exact bndx i36 (by decide) (by decide) | exact ⟨by fail, by fail⟩) (by first | exact bnd h_p2 (by decide) (by decide) | exact ⟨by fail, by fail⟩)) ?_
        refine go_toq PM261 (k := 2) (pc' := 5) (L' := [some (.inr (.inr (some 56))), some (.inl p2), some (.inl (l5_2 + 1)), some (.inl 48)]) (st' := []) (w' := (SH, (u2 dt33 56 (l5_2).toNat p2))) rfl ?_
        exact GO.le (ih_loop37 (l5_2 + 1) (u2 dt33 56 (l5_2).toNat p2) hI42 hF43 (by first | exact bndp i36 (by decide) (by decide) | exact bnde i36 c41 (by decide) (by decide) | fail) (by omega)) ⟨.inl rfl, .inl rfl, .inl rfl, .inl rfl, trivial⟩
  exact GO.le (loop37 _ 0 dt hI hF ⟨by decide, by decide⟩ (Nat.lt_succ_self _)) ⟨.inl rfl, .inl rfl, .inl rfl, .inl rfl, trivial⟩
theorem sp_J7_fill_53178_75 (L : Nat) (xs : Nat → Int32) (sio : Option Nat) (d : Nat) (dt : Nat → Nat → Int) (hI : InvC dt)  (p2 : Int) (h_p2 : (-2147483648) ≤ p2 ∧ p2 ≤ 2147483647)  : GO (am_XX L xs sio) (d) 261 0 [some (.inr (.inr (some 75))), some (.inl p2), none, none] [] (SH, dt) (fun r w2 => ∃ dt2 : Nat → Nat → Int, w2 = (SH, dt2) ∧ InvC dt2 ∧ Fr [75] dt dt2 ∧ ((r = none ∧ True))) := by
  have hF : Fr [75] dt dt := Fr_refl
  refine go_toq PM261 (k := 5) (pc' := 5) (L' := [some (.inr (.inr (some 75))), some (.inl p2), some (.inl 0), some (.inl 8)]) (st' := []) (w' := (SH, dt)) rfl ?_
  have loop25 : ∀ (k_ : Nat) (l5_2 : Int) (dt21 : Nat → Nat → Int) (hI22 : InvC dt21) (hF23 : Fr [75] dt dt21) (i24 : 0 ≤ l5_2 ∧ l5_2 ≤ 8), (9 - l5_2).toNat < k_ → GO (am_XX L xs sio) (d) 261 5 [some (.inr (.inr (some 75))), some (.inl p2), some (.inl l5_2), some (.inl 8)] [] (SH, dt21) (fun r w2 => ∃ dt2 : Nat → Nat → Int, w2 = (SH, dt2) ∧ InvC dt2 ∧ Fr [75] dt dt2 ∧ ((r = none ∧ True))) := by
    intro k_
    induction k_ with
    | zero => intro l5_2 dt21 hI22 hF23 i24 hm; exact absurd hm (Nat.not_lt_zero _)
    | succ k_ ih_loop25 =>
      intro l5_2 dt21 hI22 hF23 i24 hm
      refine go_ifq PM261 (k := 2) (p1 := 20) (p2 := 10) (L' := [some (.inr (.inr (some 75))), some (.inl p2), some (.inl l5_2), some (.inl 8)]) (st' := []) (w' := (SH, dt21)) rfl (c_ge (a := l5_2) (b := 8) (by first | exact bnd i24 (by decide) (by decide) | exact ⟨by fail, by fail⟩) ⟨by decide, by decide⟩) (fun c29 => ?_) (fun c29 => ?_)
      · skip
        refine go_retq PM261 (k := 0) (r := none) (w1 := (SH, dt21)) rfl ?_
        exact ⟨dt21, rfl, hI22, hF23, ⟨rfl, trivial⟩⟩
      · skip
        refine go_toq PM261 (k := 3) (pc' := 13) (L' := [some (.inr (.inr (some 75))), some (.inl p2), some (.inl l5_2), some (.inl 8)]) (st' := [.inl p2, .inl l5_2, .inr (.inr (some 75))]) (w' := (SH, dt21)) rfl ?_
        have hI30 : InvC (u2 dt21 75 (l5_2).toNat p2) := InvC_u2 hI22 (lo := -2147483648) (hi := 2147483647) rfl rfl rfl (by first | exact bnd1 h_p2 (by decide) | fail) (by first | exact bnd2 h_p2 (by decide) | fail)
        have hF31 : Fr [75] dt (u2 dt21 75 (l5_2).toNat p2) := Fr_u2 hF23 (by decide)
        refine go_smpq PM261 (L' := [some (.inr (.inr (some 75))), some (.inl p2), some (.inl l5_2), some (.inl 8)]) (st' := []) (w' := (SH, (u2 dt21 75 (l5_2).toNat p2))) rfl rfl (s_iast (n := 8) rfl (by first | exact bndc i24 c29 (by decide) (by decide) | exact bndx i24 (by decide) (by decide) | exact ⟨by fail, by fail⟩) (by first | exact bnd h_p2 (by decide) (by decide) | exact ⟨by fail, by fail⟩)) ?_
        refine go_toq PM261 (k := 2) (pc' := 5) (L' := [some (.inr (.inr (some 75))), some (.inl p2), some (.inl (l5_2 + 1)), some (.inl 8)]) (st' := []) (w' := (SH, (u2 dt21 75 (l5_2).toNat p2))) rfl ?_
        exact GO.le (ih_loop25 (l5_2 + 1) (u2 dt21 75 (l5_2).toNat p2) hI30 hF31 (by first | exact bndp i24 (by decide) (by decide) | exact bnde i24 c29 (by decide) (by decide) | fail) (by omega)) ⟨.inl rfl, .inl rfl, .inl rfl, .inl rfl, trivial⟩
  exact GO.le (loop25 _ 0 dt hI hF ⟨by decide, by decide⟩ (Nat.lt_succ_self _)) ⟨.inl rfl, .inl rfl, .inl rfl, .inl rfl, trivial⟩
theorem sp_J7_fill_53178_78 (L : Nat) (xs : Nat → Int32) (sio : Option Nat) (d : Nat) (dt : Nat → Nat → Int) (hI : InvC dt)  (p2 : Int) (h_p2 : (-2147483648) ≤ p2 ∧ p2 ≤ 2147483647)  : GO (am_XX L xs sio) (d) 261 0 [some (.inr (.inr (some 78))), some (.inl p2), none, none] [] (SH, dt) (fun r w2 => ∃ dt2 : Nat → Nat → Int, w2 = (SH, dt2) ∧ InvC dt2 ∧ Fr [78] dt dt2 ∧ ((r = none ∧ True))) := by
  have hF : Fr [78] dt dt := Fr_refl
  refine go_toq PM261 (k := 5) (pc' := 5) (L' := [some (.inr (.inr (some 78))), some (.inl p2), some (.inl 0), some (.inl 4)]) (st' := []) (w' := (SH, dt)) rfl ?_
  have loop25 : ∀ (k_ : Nat) (l5_2 : Int) (dt21 : Nat → Nat → Int) (hI22 : InvC dt21) (hF23 : Fr [78] dt dt21) (i24 : 0 ≤ l5_2 ∧ l5_2 ≤ 4), (5 - l5_2).toNat < k_ → GO (am_XX L xs sio) (d) 261 5 [some (.inr (.inr (some 78))), some (.inl p2), some (.inl l5_2), some (.inl 4)] [] (SH, dt21) (fun r w2 => ∃ dt2 : Nat → Nat → Int, w2 = (SH, dt2) ∧ InvC dt2 ∧ Fr [78] dt dt2 ∧ ((r = none ∧ True))) := by
    intro k_
    induction k_ with
    | zero => intro l5_2 dt21 hI22 hF23 i24 hm; exact absurd hm (Nat.not_lt_zero _)
    | succ k_ ih_loop25 =>
      intro l5_2 dt21 hI22 hF23 i24 hm
      refine go_ifq PM261 (k := 2) (p1 := 20) (p2 := 10) (L' := [some (.inr (.inr (some 78))), some (.inl p2), some (.inl l5_2), some (.inl 4)]) (st' := []) (w' := (SH, dt21)) rfl (c_ge (a := l5_2) (b := 4) (by first | exact bnd i24 (by decide) (by decide) | exact ⟨by fail, by fail⟩) ⟨by decide, by decide⟩) (fun c29 => ?_) (fun c29 => ?_)
      · skip
        refine go_retq PM261 (k := 0) (r := none) (w1 := (SH, dt21)) rfl ?_
        exact ⟨dt21, rfl, hI22, hF23, ⟨rfl, trivial⟩⟩
      · skip
        refine go_toq PM261 (k := 3) (pc' := 13) (L' := [some (.inr (.inr (some 78))), some (.inl p2), some (.inl l5_2), some (.inl 4)]) (st' := [.inl p2, .inl l5_2, .inr (.inr (some 78))]) (w' := (SH, dt21)) rfl ?_
        have hI30 : InvC (u2 dt21 78 (l5_2).toNat p2) := InvC_u2 hI22 (lo := -2147483648) (hi := 2147483647) rfl rfl rfl (by first | exact bnd1 h_p2 (by decide) | fail) (by first | exact bnd2 h_p2 (by decide) | fail)
        have hF31 : Fr [78] dt (u2 dt21 78 (l5_2).toNat p2) := Fr_u2 hF23 (by decide)
        refine go_smpq PM261 (L' := [some (.inr (.inr (some 78))), some (.inl p2), some (.inl l5_2), some (.inl 4)]) (st' := []) (w' := (SH, (u2 dt21 78 (l5_2).toNat p2))) rfl rfl (s_iast (n := 4) rfl (by first | exact bndc i24 c29 (by decide) (by decide) | exact bndx i24 (by decide) (by decide) | exact ⟨by fail, by fail⟩) (by first | exact bnd h_p2 (by decide) (by decide) | exact ⟨by fail, by fail⟩)) ?_
        refine go_toq PM261 (k := 2) (pc' := 5) (L' := [some (.inr (.inr (some 78))), some (.inl p2), some (.inl (l5_2 + 1)), some (.inl 4)]) (st' := []) (w' := (SH, (u2 dt21 78 (l5_2).toNat p2))) rfl ?_
        exact GO.le (ih_loop25 (l5_2 + 1) (u2 dt21 78 (l5_2).toNat p2) hI30 hF31 (by first | exact bndp i24 (by decide) (by decide) | exact bnde i24 c29 (by decide) (by decide) | fail) (by omega)) ⟨.inl rfl, .inl rfl, .inl rfl, .inl rfl, trivial⟩
  exact GO.le (loop25 _ 0 dt hI hF ⟨by decide, by decide⟩ (Nat.lt_succ_self _)) ⟨.inl rfl, .inl rfl, .inl rfl, .inl rfl, trivial⟩
theorem sp_J6_bitCount_0f7a4 (L : Nat) (xs : Nat → Int32) (sio : Option Nat) (d : Nat) (dt : Nat → Nat → Int) (hI : InvC dt)  (p1 : Int) (h_p1 : (-2147483648) ≤ p1 ∧ p1 ≤ 2147483647)  : GO (am_XX L xs sio) (d) 262 0 [some (.inl p1)] [] (SH, dt) (fun r w2 => w2 = (SH, dt) ∧ ((∃ v : Int, r = some (.inl v) ∧ (0 ≤ v ∧ v ≤ 63) ∧ True))) := by
  have r1 : -2147483648 ≤ am_ushr p1 1 ∧ am_ushr p1 1 ≤ 2147483647 := am_ushr_R
  have r2 : -2147483648 ≤ am_and (am_ushr p1 1) 1431655765 ∧ am_and (am_ushr p1 1) 1431655765 ≤ 2147483647 := am_and_R
  have r3 : -2147483648 ≤ am_and (p1 - (am_and (am_ushr p1 1) 1431655765)) 858993459 ∧ am_and (p1 - (am_and (am_ushr p1 1) 1431655765)) 858993459 ≤ 2147483647 := am_and_R
  have r4 : -2147483648 ≤ am_ushr (p1 - (am_and (am_ushr p1 1) 1431655765)) 2 ∧ am_ushr (p1 - (am_and (am_ushr p1 1) 1431655765)) 2 ≤ 2147483647 := am_ushr_R
  have r5 : -2147483648 ≤ am_and (am_ushr (p1 - (am_and (am_ushr p1 1) 1431655765)) 2) 858993459 ∧ am_and (am_ushr (p1 - (am_and (am_ushr p1 1) 1431655765)) 2) 858993459 ≤ 2147483647 := am_and_R
  have r6 : -2147483648 ≤ am_ushr ((am_and (p1 - (am_and (am_ushr p1 1) 1431655765)) 858993459) + (am_and (am_ushr (p1 - (am_and (am_ushr p1 1) 1431655765)) 2) 858993459)) 4 ∧ am_ushr ((am_and (p1 - (am_and (am_ushr p1 1) 1431655765)) 858993459) + (am_and (am_ushr (p1 - (am_and (am_ushr p1 1) 1431655765)) 2) 858993459)) 4 ≤ 2147483647 := am_ushr_R
  have r7 : -2147483648 ≤ am_and (((am_and (p1 - (am_and (am_ushr p1 1) 1431655765)) 858993459) + (am_and (am_ushr (p1 - (am_and (am_ushr p1 1) 1431655765)) 2) 858993459)) + (am_ushr ((am_and (p1 - (am_and (am_ushr p1 1) 1431655765)) 858993459) + (am_and (am_ushr (p1 - (am_and (am_ushr p1 1) 1431655765)) 2) 858993459)) 4)) 252645135 ∧ am_and (((am_and (p1 - (am_and (am_ushr p1 1) 1431655765)) 858993459) + (am_and (am_ushr (p1 - (am_and (am_ushr p1 1) 1431655765)) 2) 858993459)) + (am_ushr ((am_and (p1 - (am_and (am_ushr p1 1) 1431655765)) 858993459) + (am_and (am_ushr (p1 - (am_and (am_ushr p1 1) 1431655765)) 2) 858993459)) 4)) 252645135 ≤ 2147483647 := am_and_R
  have r8 : 0 ≤ am_ushr (am_and (((am_and (p1 - (am_and (am_ushr p1 1) 1431655765)) 858993459) + (am_and (am_ushr (p1 - (am_and (am_ushr p1 1) 1431655765)) 2) 858993459)) + (am_ushr ((am_and (p1 - (am_and (am_ushr p1 1) 1431655765)) 858993459) + (am_and (am_ushr (p1 - (am_and (am_ushr p1 1) 1431655765)) 2) 858993459)) 4)) 252645135) 8 ∧ am_ushr (am_and (((am_and (p1 - (am_and (am_ushr p1 1) 1431655765)) 858993459) + (am_and (am_ushr (p1 - (am_and (am_ushr p1 1) 1431655765)) 2) 858993459)) + (am_ushr ((am_and (p1 - (am_and (am_ushr p1 1) 1431655765)) 858993459) + (am_and (am_ushr (p1 - (am_and (am_ushr p1 1) 1431655765)) 2) 858993459)) 4)) 252645135) 8 ≤ 16777215 := ushr8_R
  have r9 : -2147483648 ≤ am_ushr ((am_and (((am_and (p1 - (am_and (am_ushr p1 1) 1431655765)) 858993459) + (am_and (am_ushr (p1 - (am_and (am_ushr p1 1) 1431655765)) 2) 858993459)) + (am_ushr ((am_and (p1 - (am_and (am_ushr p1 1) 1431655765)) 858993459) + (am_and (am_ushr (p1 - (am_and (am_ushr p1 1) 1431655765)) 2) 858993459)) 4)) 252645135) + (am_ushr (am_and (((am_and (p1 - (am_and (am_ushr p1 1) 1431655765)) 858993459) + (am_and (am_ushr (p1 - (am_and (am_ushr p1 1) 1431655765)) 2) 858993459)) + (am_ushr ((am_and (p1 - (am_and (am_ushr p1 1) 1431655765)) 858993459) + (am_and (am_ushr (p1 - (am_and (am_ushr p1 1) 1431655765)) 2) 858993459)) 4)) 252645135) 8)) 16 ∧ am_ushr ((am_and (((am_and (p1 - (am_and (am_ushr p1 1) 1431655765)) 858993459) + (am_and (am_ushr (p1 - (am_and (am_ushr p1 1) 1431655765)) 2) 858993459)) + (am_ushr ((am_and (p1 - (am_and (am_ushr p1 1) 1431655765)) 858993459) + (am_and (am_ushr (p1 - (am_and (am_ushr p1 1) 1431655765)) 2) 858993459)) 4)) 252645135) + (am_ushr (am_and (((am_and (p1 - (am_and (am_ushr p1 1) 1431655765)) 858993459) + (am_and (am_ushr (p1 - (am_and (am_ushr p1 1) 1431655765)) 2) 858993459)) + (am_ushr ((am_and (p1 - (am_and (am_ushr p1 1) 1431655765)) 858993459) + (am_and (am_ushr (p1 - (am_and (am_ushr p1 1) 1431655765)) 2) 858993459)) 4)) 252645135) 8)) 16 ≤ 2147483647 := am_ushr_R
  have r10 : 0 ≤ am_and (((am_and (((am_and (p1 - (am_and (am_ushr p1 1) 1431655765)) 858993459) + (am_and (am_ushr (p1 - (am_and (am_ushr p1 1) 1431655765)) 2) 858993459)) + (am_ushr ((am_and (p1 - (am_and (am_ushr p1 1) 1431655765)) 858993459) + (am_and (am_ushr (p1 - (am_and (am_ushr p1 1) 1431655765)) 2) 858993459)) 4)) 252645135) + (am_ushr (am_and (((am_and (p1 - (am_and (am_ushr p1 1) 1431655765)) 858993459) + (am_and (am_ushr (p1 - (am_and (am_ushr p1 1) 1431655765)) 2) 858993459)) + (am_ushr ((am_and (p1 - (am_and (am_ushr p1 1) 1431655765)) 858993459) + (am_and (am_ushr (p1 - (am_and (am_ushr p1 1) 1431655765)) 2) 858993459)) 4)) 252645135) 8)) + (am_ushr ((am_and (((am_and (p1 - (am_and (am_ushr p1 1) 1431655765)) 858993459) + (am_and (am_ushr (p1 - (am_and (am_ushr p1 1) 1431655765)) 2) 858993459)) + (am_ushr ((am_and (p1 - (am_and (am_ushr p1 1) 1431655765)) 858993459) + (am_and (am_ushr (p1 - (am_and (am_ushr p1 1) 1431655765)) 2) 858993459)) 4)) 252645135) + (am_ushr (am_and (((am_and (p1 - (am_and (am_ushr p1 1) 1431655765)) 858993459) + (am_and (am_ushr (p1 - (am_and (am_ushr p1 1) 1431655765)) 2) 858993459)) + (am_ushr ((am_and (p1 - (am_and (am_ushr p1 1) 1431655765)) 858993459) + (am_and (am_ushr (p1 - (am_and (am_ushr p1 1) 1431655765)) 2) 858993459)) 4)) 252645135) 8)) 16)) 63 ∧ am_and (((am_and (((am_and (p1 - (am_and (am_ushr p1 1) 1431655765)) 858993459) + (am_and (am_ushr (p1 - (am_and (am_ushr p1 1) 1431655765)) 2) 858993459)) + (am_ushr ((am_and (p1 - (am_and (am_ushr p1 1) 1431655765)) 858993459) + (am_and (am_ushr (p1 - (am_and (am_ushr p1 1) 1431655765)) 2) 858993459)) 4)) 252645135) + (am_ushr (am_and (((am_and (p1 - (am_and (am_ushr p1 1) 1431655765)) 858993459) + (am_and (am_ushr (p1 - (am_and (am_ushr p1 1) 1431655765)) 2) 858993459)) + (am_ushr ((am_and (p1 - (am_and (am_ushr p1 1) 1431655765)) 858993459) + (am_and (am_ushr (p1 - (am_and (am_ushr p1 1) 1431655765)) 2) 858993459)) 4)) 252645135) 8)) + (am_ushr ((am_and (((am_and (p1 - (am_and (am_ushr p1 1) 1431655765)) 858993459) + (am_and (am_ushr (p1 - (am_and (am_ushr p1 1) 1431655765)) 2) 858993459)) + (am_ushr ((am_and (p1 - (am_and (am_ushr p1 1) 1431655765)) 858993459) + (am_and (am_ushr (p1 - (am_and (am_ushr p1 1) 1431655765)) 2) 858993459)) 4)) 252645135) + (am_ushr (am_and (((am_and (p1 - (am_and (am_ushr p1 1) 1431655765)) 858993459) + (am_and (am_ushr (p1 - (am_and (am_ushr p1 1) 1431655765)) 2) 858993459)) + (am_ushr ((am_and (p1 - (am_and (am_ushr p1 1) 1431655765)) 858993459) + (am_and (am_ushr (p1 - (am_and (am_ushr p1 1) 1431655765)) 2) 858993459)) 4)) 252645135) 8)) 16)) 63 ≤ 63 := and_R63
  refine go_retq PM262 (k := 41) (r := some (.inl (am_and (((am_and (((am_and (p1 - (am_and (am_ushr p1 1) 1431655765)) 858993459) + (am_and (am_ushr (p1 - (am_and (am_ushr p1 1) 1431655765)) 2) 858993459)) + (am_ushr ((am_and (p1 - (am_and (am_ushr p1 1) 1431655765)) 858993459) + (am_and (am_ushr (p1 - (am_and (am_ushr p1 1) 1431655765)) 2) 858993459)) 4)) 252645135) + (am_ushr (am_and (((am_and (p1 - (am_and (am_ushr p1 1) 1431655765)) 858993459) + (am_and (am_ushr (p1 - (am_and (am_ushr p1 1) 1431655765)) 2) 858993459)) + (am_ushr ((am_and (p1 - (am_and (am_ushr p1 1) 1431655765)) 858993459) + (am_and (am_ushr (p1 - (am_and (am_ushr p1 1) 1431655765)) 2) 858993459)) 4)) 252645135) 8)) + (am_ushr ((am_and (((am_and (p1 - (am_and (am_ushr p1 1) 1431655765)) 858993459) + (am_and (am_ushr (p1 - (am_and (am_ushr p1 1) 1431655765)) 2) 858993459)) + (am_ushr ((am_and (p1 - (am_and (am_ushr p1 1) 1431655765)) 858993459) + (am_and (am_ushr (p1 - (am_and (am_ushr p1 1) 1431655765)) 2) 858993459)) 4)) 252645135) + (am_ushr (am_and (((am_and (p1 - (am_and (am_ushr p1 1) 1431655765)) 858993459) + (am_and (am_ushr (p1 - (am_and (am_ushr p1 1) 1431655765)) 2) 858993459)) + (am_ushr ((am_and (p1 - (am_and (am_ushr p1 1) 1431655765)) 858993459) + (am_and (am_ushr (p1 - (am_and (am_ushr p1 1) 1431655765)) 2) 858993459)) 4)) 252645135) 8)) 16)) 63))) (w1 := (SH, dt)) rfl ?_
  exact ⟨rfl, ⟨_, rfl, (by first | exact bnd r10 (by decide) (by decide) | exact ⟨by fail, by fail⟩), trivial⟩⟩
theorem sp_J9_floorMod_7cf53_4 (L : Nat) (xs : Nat → Int32) (sio : Option Nat) (d : Nat) (dt : Nat → Nat → Int) (hI : InvC dt)  (p1 : Int) (h_p1 : 0 ≤ p1 ∧ p1 ≤ 100)  : GO (am_XX L xs sio) (d) 263 0 [some (.inl p1), some (.inl 4), none] [] (SH, dt) (fun r w2 => w2 = (SH, dt) ∧ ((∃ v : Int, r = some (.inl v) ∧ (0 ≤ v ∧ v ≤ 3) ∧ True))) := by
  refine go_toq PM263 (k := 2) (pc' := 2) (L' := [some (.inl p1), some (.inl 4), none]) (st' := [.inl 4, .inl p1]) (w' := (SH, dt)) rfl ?_
  refine go_smpq PM263 (L' := [some (.inl p1), some (.inl 4), none]) (st' := [.inl (p1 % 4)]) (w' := (SH, dt)) rfl rfl (s_iremc ⟨by omega, by omega⟩ ⟨by omega, by omega⟩) ?_
  have r1 : 0 ≤ am_xor p1 4 ∧ am_xor p1 4 ≤ 127 := am_xor_N (n := 7) ⟨by omega, by omega⟩ ⟨by omega, by omega⟩ (by decide) (by decide)
  refine go_ifq PM263 (k := 4) (p1 := 18) (p2 := 10) (L' := [some (.inl p1), some (.inl 4), some (.inl (p1 % 4))]) (st' := []) (w' := (SH, dt)) rfl (z_ge (a := am_xor p1 4) (by first | exact bnd r1 (by decide) (by decide) | exact ⟨by fail, by fail⟩)) (fun c2 => ?_) (fun c2 => ?_)
  · skip
    refine go_retq PM263 (k := 1) (r := some (.inl (p1 % 4))) (w1 := (SH, dt)) rfl ?_
    exact ⟨rfl, ⟨_, rfl, ⟨by omega, by omega⟩, trivial⟩⟩
  · exfalso; omega
theorem sp_X4_canSee_43 (L : Nat) (xs : Nat → Int32) (sio : Option Nat) (d : Nat) (dt : Nat → Nat → Int) (hI : InvC dt)  (p1 : Int) (h_p1 : 0 ≤ p1 ∧ p1 ≤ 3)  : GO (am_XX L xs sio) (d) 54 0 [some (.inr (.inr (some 43))), some (.inl p1)] [] (SH, dt) (fun r w2 => w2 = (SH, dt) ∧ ((r = some (.inl 1) ∧ True) ∨ (r = some (.inl 0) ∧ True))) := by
  refine go_toq PM54 (k := 3) (pc' := 5) (L' := [some (.inr (.inr (some 43))), some (.inl p1)]) (st' := [.inl p1, .inr (.inr (some 44))]) (w' := (SH, dt)) rfl ?_
  have r1 : (-2147483648) ≤ dt 44 (p1).toNat ∧ dt 44 (p1).toNat ≤ 2147483647 := InvC_get hI 44 (p1).toNat rfl rfl
  refine go_smpq PM54 (L' := [some (.inr (.inr (some 43))), some (.inl p1)]) (st' := [.inl (dt 44 (p1).toNat)]) (w' := (SH, dt)) rfl rfl (s_iald (n := 4) (f := dt 44) rfl (by first | exact bndx h_p1 (by decide) (by decide) | exact ⟨by fail, by fail⟩)) ?_
  have j6 :  GO (am_XX L xs sio) (d) 54 35 [some (.inr (.inr (some 43))), none] [.inl 0] (SH, dt) (fun r w2 => w2 = (SH, dt) ∧ ((r = some (.inl 1) ∧ True) ∨ (r = some (.inl 0) ∧ True))) := by
    skip
    refine go_retq PM54 (k := 0) (r := some (.inl 0)) (w1 := (SH, dt)) rfl ?_
    exact ⟨rfl, (Or.inr ⟨rfl, trivial⟩)⟩
  have j7 :  GO (am_XX L xs sio) (d) 54 35 [some (.inr (.inr (some 43))), none] [.inl 1] (SH, dt) (fun r w2 => w2 = (SH, dt) ∧ ((r = some (.inl 1) ∧ True) ∨ (r = some (.inl 0) ∧ True))) := by
    skip
    refine go_retq PM54 (k := 0) (r := some (.inl 1)) (w1 := (SH, dt)) rfl ?_
    exact ⟨rfl, (Or.inl ⟨rfl, trivial⟩)⟩
  refine go_ifq PM54 (k := 1) (p1 := 34) (p2 := 10) (L' := [some (.inr (.inr (some 43))), some (.inl p1)]) (st' := []) (w' := (SH, dt)) rfl (c_ne (a := dt 44 (p1).toNat) (b := 1) (by first | exact bnd r1 (by decide) (by decide) | exact ⟨by fail, by fail⟩) ⟨by decide, by decide⟩) (fun c8 => ?_) (fun c8 => ?_)
  · skip
    replace c8 := hid c8
    refine go_toq PM54 (k := 1) (pc' := 35) (L' := [some (.inr (.inr (some 43))), some (.inl p1)]) (st' := [.inl 0]) (w' := (SH, dt)) rfl ?_
    exact GO.le (j6 ) ⟨.inl rfl, .inr ⟨rfl, trivial⟩, trivial⟩
  · skip
    refine go_toq PM54 (k := 3) (pc' := 15) (L' := [some (.inr (.inr (some 43))), some (.inl p1)]) (st' := [.inl p1, .inr (.inr (some 45))]) (w' := (SH, dt)) rfl ?_
    have r9 : (-2147483648) ≤ dt 45 (p1).toNat ∧ dt 45 (p1).toNat ≤ 2147483647 := InvC_get hI 45 (p1).toNat rfl rfl
    refine go_smpq PM54 (L' := [some (.inr (.inr (some 43))), some (.inl p1)]) (st' := [.inl (dt 45 (p1).toNat)]) (w' := (SH, dt)) rfl rfl (s_iald (n := 4) (f := dt 45) rfl (by first | exact bndx h_p1 (by decide) (by decide) | exact ⟨by fail, by fail⟩)) ?_
    refine go_ifq PM54 (k := 1) (p1 := 30) (p2 := 20) (L' := [some (.inr (.inr (some 43))), some (.inl p1)]) (st' := []) (w' := (SH, dt)) rfl (c_eq (a := dt 45 (p1).toNat) (b := (-1)) (by first | exact bnd r9 (by decide) (by decide) | exact ⟨by fail, by fail⟩) ⟨by decide, by decide⟩) (fun c10 => ?_) (fun c10 => ?_)
    · skip
      refine go_toq PM54 (k := 2) (pc' := 35) (L' := [some (.inr (.inr (some 43))), some (.inl p1)]) (st' := [.inl 1]) (w' := (SH, dt)) rfl ?_
      exact GO.le (j7 ) ⟨.inl rfl, .inr ⟨rfl, trivial⟩, trivial⟩
    · skip
      replace c10 := hid c10
      refine go_toq PM54 (k := 3) (pc' := 25) (L' := [some (.inr (.inr (some 43))), some (.inl p1)]) (st' := [.inl p1, .inr (.inr (some 45))]) (w' := (SH, dt)) rfl ?_
      refine go_smpq PM54 (L' := [some (.inr (.inr (some 43))), some (.inl p1)]) (st' := [.inl (dt 45 (p1).toNat)]) (w' := (SH, dt)) rfl rfl (s_iald (n := 4) (f := dt 45) rfl (by first | exact bndx h_p1 (by decide) (by decide) | exact ⟨by fail, by fail⟩)) ?_
      refine go_ifq PM54 (k := 1) (p1 := 34) (p2 := 30) (L' := [some (.inr (.inr (some 43))), some (.inl p1)]) (st' := []) (w' := (SH, dt)) rfl (c_ne (a := dt 45 (p1).toNat) (b := 1) (by first | exact bnd r9 (by decide) (by decide) | exact ⟨by fail, by fail⟩) ⟨by decide, by decide⟩) (fun c11 => ?_) (fun c11 => ?_)
      · skip
        replace c11 := hid c11
        refine go_toq PM54 (k := 1) (pc' := 35) (L' := [some (.inr (.inr (some 43))), some (.inl p1)]) (st' := [.inl 0]) (w' := (SH, dt)) rfl ?_
        exact GO.le (j6 ) ⟨.inl rfl, .inr ⟨rfl, trivial⟩, trivial⟩
      · skip
        refine go_toq PM54 (k := 2) (pc' := 35) (L' := [some (.inr (.inr (some 43))), some (.inl p1)]) (st' := [.inl 1]) (w' := (SH, dt)) rfl ?_
        exact GO.le (j7 ) ⟨.inl rfl, .inr ⟨rfl, trivial⟩, trivial⟩
theorem sp_X4_seemsToSee_43 (L : Nat) (xs : Nat → Int32) (sio : Option Nat) (d : Nat) (dt : Nat → Nat → Int) (hI : InvC dt)  (p1 : Int) (h_p1 : 0 ≤ p1 ∧ p1 ≤ 3) (p2 : Int) (h_p2 : 0 ≤ p2 ∧ p2 ≤ 3)  : GO (am_XX L xs sio) (d) 55 0 [some (.inr (.inr (some 43))), some (.inl p1), some (.inl p2), none] [] (SH, dt) (fun r w2 => w2 = (SH, dt) ∧ ((r = some (.inl 1) ∧ True) ∨ (r = some (.inl 0) ∧ True))) := by
  refine go_toq PM55 (k := 3) (pc' := 5) (L' := [some (.inr (.inr (some 43))), some (.inl p1), some (.inl p2), none]) (st' := [.inl p1, .inr (.inr (some 45))]) (w' := (SH, dt)) rfl ?_
  have r1 : (-2147483648) ≤ dt 45 (p1).toNat ∧ dt 45 (p1).toNat ≤ 2147483647 := InvC_get hI 45 (p1).toNat rfl rfl
  refine go_smpq PM55 (L' := [some (.inr (.inr (some 43))), some (.inl p1), some (.inl p2), none]) (st' := [.inl (dt 45 (p1).toNat)]) (w' := (SH, dt)) rfl rfl (s_iald (n := 4) (f := dt 45) rfl (by first | exact bndx h_p1 (by decide) (by decide) | exact ⟨by fail, by fail⟩)) ?_
  have j5 :  GO (am_XX L xs sio) (d) 55 29 [some (.inr (.inr (some 43))), some (.inl p1), none, none] [.inl 0] (SH, dt) (fun r w2 => w2 = (SH, dt) ∧ ((r = some (.inl 1) ∧ True) ∨ (r = some (.inl 0) ∧ True))) := by
    skip
    refine go_toq PM55 (k := 4) (pc' := 35) (L' := [some (.inr (.inr (some 43))), some (.inl p1), none, some (.inl 0)]) (st' := [.inl p1, .inr (.inr (some 44))]) (w' := (SH, dt)) rfl ?_
    have r6 : (-2147483648) ≤ dt 44 (p1).toNat ∧ dt 44 (p1).toNat ≤ 2147483647 := InvC_get hI 44 (p1).toNat rfl rfl
    refine go_smpq PM55 (L' := [some (.inr (.inr (some 43))), some (.inl p1), none, some (.inl 0)]) (st' := [.inl (dt 44 (p1).toNat)]) (w' := (SH, dt)) rfl rfl (s_iald (n := 4) (f := dt 44) rfl (by first | exact bndx h_p1 (by decide) (by decide) | exact ⟨by fail, by fail⟩)) ?_
    have j9 :  GO (am_XX L xs sio) (d) 55 59 [some (.inr (.inr (some 43))), none, none, none] [.inl 0] (SH, dt) (fun r w2 => w2 = (SH, dt) ∧ ((r = some (.inl 1) ∧ True) ∨ (r = some (.inl 0) ∧ True))) := by
      skip
      refine go_retq PM55 (k := 0) (r := some (.inl 0)) (w1 := (SH, dt)) rfl ?_
      exact ⟨rfl, (Or.inr ⟨rfl, trivial⟩)⟩
    refine go_ifq PM55 (k := 1) (p1 := 58) (p2 := 40) (L' := [some (.inr (.inr (some 43))), some (.inl p1), none, some (.inl 0)]) (st' := []) (w' := (SH, dt)) rfl (c_ne (a := dt 44 (p1).toNat) (b := 1) (by first | exact bnd r6 (by decide) (by decide) | exact ⟨by fail, by fail⟩) ⟨by decide, by decide⟩) (fun c10 => ?_) (fun c10 => ?_)
    · skip
      replace c10 := hid c10
      refine go_toq PM55 (k := 1) (pc' := 59) (L' := [some (.inr (.inr (some 43))), some (.inl p1), none, some (.inl 0)]) (st' := [.inl 0]) (w' := (SH, dt)) rfl ?_
      exact GO.le (j9 ) ⟨.inl rfl, .inr ⟨rfl, trivial⟩, .inl rfl, .inr ⟨rfl, trivial⟩, trivial⟩
    · skip
      refine go_toq PM55 (k := 3) (pc' := 45) (L' := [some (.inr (.inr (some 43))), some (.inl p1), none, some (.inl 0)]) (st' := [.inl p1, .inr (.inr (some 45))]) (w' := (SH, dt)) rfl ?_
      refine go_smpq PM55 (L' := [some (.inr (.inr (some 43))), some (.inl p1), none, some (.inl 0)]) (st' := [.inl (dt 45 (p1).toNat)]) (w' := (SH, dt)) rfl rfl (s_iald (n := 4) (f := dt 45) rfl (by first | exact bndx h_p1 (by decide) (by decide) | exact ⟨by fail, by fail⟩)) ?_
      refine go_ifq PM55 (k := 1) (p1 := 54) (p2 := 50) (L' := [some (.inr (.inr (some 43))), some (.inl p1), none, some (.inl 0)]) (st' := []) (w' := (SH, dt)) rfl (c_eq (a := dt 45 (p1).toNat) (b := (-1)) (by first | exact bnd r1 (by decide) (by decide) | exact ⟨by fail, by fail⟩) ⟨by decide, by decide⟩) (fun c11 => ?_) (fun c11 => ?_)
      · skip
        refine go_retq PM55 (k := 2) (r := some (.inl 1)) (w1 := (SH, dt)) rfl ?_
        exact ⟨rfl, (Or.inl ⟨rfl, trivial⟩)⟩
      · skip
        replace c11 := hid c11
        refine go_toq PM55 (k := 3) (pc' := 59) (L' := [some (.inr (.inr (some 43))), some (.inl p1), none, some (.inl 0)]) (st' := [.inl 0]) (w' := (SH, dt)) rfl ?_
        exact GO.le (j9 ) ⟨.inl rfl, .inr ⟨rfl, trivial⟩, .inl rfl, .inr ⟨rfl, trivial⟩, trivial⟩
  refine go_ifq PM55 (k := 1) (p1 := 28) (p2 := 10) (L' := [some (.inr (.inr (some 43))), some (.inl p1), some (.inl p2), none]) (st' := []) (w' := (SH, dt)) rfl (c_ne (a := dt 45 (p1).toNat) (b := 1) (by first | exact bnd r1 (by decide) (by decide) | exact ⟨by fail, by fail⟩) ⟨by decide, by decide⟩) (fun c12 => ?_) (fun c12 => ?_)
  · skip
    replace c12 := hid c12
    refine go_toq PM55 (k := 1) (pc' := 29) (L' := [some (.inr (.inr (some 43))), some (.inl p1), some (.inl p2), none]) (st' := [.inl 0]) (w' := (SH, dt)) rfl ?_
    exact GO.le (j5 ) ⟨.inl rfl, .inl rfl, .inr ⟨rfl, trivial⟩, .inl rfl, trivial⟩
  · skip
    refine go_toq PM55 (k := 7) (pc' := 19) (L' := [some (.inr (.inr (some 43))), some (.inl p1), some (.inl p2), none]) (st' := [.inl ((p2 * 2) + 1), .inr (.inr (some 46))]) (w' := (SH, dt)) rfl ?_
    have r13 : (-2147483648) ≤ dt 46 (((p2 * 2) + 1).toNat) ∧ dt 46 (((p2 * 2) + 1).toNat) ≤ 2147483647 := InvC_get hI 46 (((p2 * 2) + 1).toNat) rfl rfl
    refine go_smpq PM55 (L' := [some (.inr (.inr (some 43))), some (.inl p1), some (.inl p2), none]) (st' := [.inl (dt 46 (((p2 * 2) + 1).toNat))]) (w' := (SH, dt)) rfl rfl (s_iald (n := 8) (f := dt 46) rfl ⟨by omega, by omega⟩) ?_
    refine go_ifq PM55 (k := 1) (p1 := 28) (p2 := 24) (L' := [some (.inr (.inr (some 43))), some (.inl p1), some (.inl p2), none]) (st' := []) (w' := (SH, dt)) rfl (c_ne (a := dt 46 (((p2 * 2) + 1).toNat)) (b := 1) (by first | exact bnd r13 (by decide) (by decide) | exact ⟨by fail, by fail⟩) ⟨by decide, by decide⟩) (fun c14 => ?_) (fun c14 => ?_)
    · skip
      replace c14 := hid c14
      refine go_toq PM55 (k := 1) (pc' := 29) (L' := [some (.inr (.inr (some 43))), some (.inl p1), some (.inl p2), none]) (st' := [.inl 0]) (w' := (SH, dt)) rfl ?_
      exact GO.le (j5 ) ⟨.inl rfl, .inl rfl, .inr ⟨rfl, trivial⟩, .inl rfl, trivial⟩
    · skip
      refine go_toq PM55 (k := 6) (pc' := 35) (L' := [some (.inr (.inr (some 43))), some (.inl p1), some (.inl p2), some (.inl 1)]) (st' := [.inl p1, .inr (.inr (some 44))]) (w' := (SH, dt)) rfl ?_
      have r15 : (-2147483648) ≤ dt 44 (p1).toNat ∧ dt 44 (p1).toNat ≤ 2147483647 := InvC_get hI 44 (p1).toNat rfl rfl
      refine go_smpq PM55 (L' := [some (.inr (.inr (some 43))), some (.inl p1), some (.inl p2), some (.inl 1)]) (st' := [.inl (dt 44 (p1).toNat)]) (w' := (SH, dt)) rfl rfl (s_iald (n := 4) (f := dt 44) rfl (by first | exact bndx h_p1 (by decide) (by decide) | exact ⟨by fail, by fail⟩)) ?_
      refine go_ifq PM55 (k := 1) (p1 := 58) (p2 := 40) (L' := [some (.inr (.inr (some 43))), some (.inl p1), some (.inl p2), some (.inl 1)]) (st' := []) (w' := (SH, dt)) rfl (c_ne (a := dt 44 (p1).toNat) (b := 1) (by first | exact bnd r15 (by decide) (by decide) | exact ⟨by fail, by fail⟩) ⟨by decide, by decide⟩) (fun c18 => ?_) (fun c18 => ?_)
      · skip
        replace c18 := hid c18
        refine go_retq PM55 (k := 1) (r := some (.inl 0)) (w1 := (SH, dt)) rfl ?_
        exact ⟨rfl, (Or.inr ⟨rfl, trivial⟩)⟩
      · skip
        refine go_toq PM55 (k := 3) (pc' := 45) (L' := [some (.inr (.inr (some 43))), some (.inl p1), some (.inl p2), some (.inl 1)]) (st' := [.inl p1, .inr (.inr (some 45))]) (w' := (SH, dt)) rfl ?_
        refine go_smpq PM55 (L' := [some (.inr (.inr (some 43))), some (.inl p1), some (.inl p2), some (.inl 1)]) (st' := [.inl (dt 45 (p1).toNat)]) (w' := (SH, dt)) rfl rfl (s_iald (n := 4) (f := dt 45) rfl (by first | exact bndx h_p1 (by decide) (by decide) | exact ⟨by fail, by fail⟩)) ?_
        refine go_ifq PM55 (k := 1) (p1 := 54) (p2 := 50) (L' := [some (.inr (.inr (some 43))), some (.inl p1), some (.inl p2), some (.inl 1)]) (st' := []) (w' := (SH, dt)) rfl (c_eq (a := dt 45 (p1).toNat) (b := (-1)) (by first | exact bnd r1 (by decide) (by decide) | exact ⟨by fail, by fail⟩) ⟨by decide, by decide⟩) (fun c20 => ?_) (fun c20 => ?_)
        · exfalso; omega
        · skip
          replace c20 := hid c20
          refine go_retq PM55 (k := 4) (r := some (.inl 1)) (w1 := (SH, dt)) rfl ?_
          exact ⟨rfl, (Or.inl ⟨rfl, trivial⟩)⟩
theorem sp_X4_wear_43 (L : Nat) (xs : Nat → Int32) (sio : Option Nat) (d : Nat) (dt : Nat → Nat → Int) (hI : InvC dt)  (p1 : Int) (h_p1 : 0 ≤ p1 ∧ p1 ≤ 3) (p2 : Int) (h_p2 : 0 ≤ p2 ∧ p2 ≤ 1)  : GO (am_XX L xs sio) (d) 56 0 [some (.inr (.inr (some 43))), some (.inl p1), some (.inl p2)] [] (SH, dt) (fun r w2 => ∃ dt2 : Nat → Nat → Int, w2 = (SH, dt2) ∧ InvC dt2 ∧ Fr [45, 46] dt dt2 ∧ ((r = none ∧ True))) := by
  have hF : Fr [45, 46] dt dt := Fr_refl
  refine go_toq PM56 (k := 4) (pc' := 6) (L' := [some (.inr (.inr (some 43))), some (.inl p1), some (.inl p2)]) (st' := [.inl p2, .inl p1, .inr (.inr (some 45))]) (w' := (SH, dt)) rfl ?_
  have hI1 : InvC (u2 dt 45 (p1).toNat p2) := InvC_u2 hI (lo := -2147483648) (hi := 2147483647) rfl rfl rfl (by first | exact bnd1 h_p2 (by decide) | fail) (by first | exact bnd2 h_p2 (by decide) | fail)
  have hF2 : Fr [45, 46] dt (u2 dt 45 (p1).toNat p2) := Fr_u2 hF (by decide)
  refine go_smpq PM56 (L' := [some (.inr (.inr (some 43))), some (.inl p1), some (.inl p2)]) (st' := []) (w' := (SH, (u2 dt 45 (p1).toNat p2))) rfl rfl (s_iast (n := 4) rfl (by first | exact bndx h_p1 (by decide) (by decide) | exact ⟨by fail, by fail⟩) (by first | exact bnd h_p2 (by decide) (by decide) | exact ⟨by fail, by fail⟩)) ?_
  refine go_toq PM56 (k := 8) (pc' := 17) (L' := [some (.inr (.inr (some 43))), some (.inl p1), some (.inl p2)]) (st' := [.inl 1, .inl ((p1 * 2) + p2), .inr (.inr (some 46))]) (w' := (SH, (u2 dt 45 (p1).toNat p2))) rfl ?_
  have hI3 : InvC (u2 (u2 dt 45 (p1).toNat p2) 46 (((p1 * 2) + p2).toNat) 1) := InvC_u2 hI1 (lo := -2147483648) (hi := 2147483647) rfl rfl rfl (by decide) (by decide)
  have hF4 : Fr [45, 46] dt (u2 (u2 dt 45 (p1).toNat p2) 46 (((p1 * 2) + p2).toNat) 1) := Fr_u2 hF2 (by decide)
  refine go_smpq PM56 (L' := [some (.inr (.inr (some 43))), some (.inl p1), some (.inl p2)]) (st' := []) (w' := (SH, (u2 (u2 dt 45 (p1).toNat p2) 46 (((p1 * 2) + p2).toNat) 1))) rfl rfl (s_iast (n := 8) rfl ⟨by omega, by omega⟩ ⟨by decide, by decide⟩) ?_
  refine go_retq PM56 (k := 0) (r := none) (w1 := (SH, (u2 (u2 dt 45 (p1).toNat p2) 46 (((p1 * 2) + p2).toNat) 1))) rfl ?_
  exact ⟨(u2 (u2 dt 45 (p1).toNat p2) 46 (((p1 * 2) + p2).toNat) 1), rfl, hI3, hF4, ⟨rfl, trivial⟩⟩
theorem sp_X4_snap_43 (L : Nat) (xs : Nat → Int32) (sio : Option Nat) (d : Nat) (dt : Nat → Nat → Int) (hI : InvC dt)  (p1 : Int) (h_p1 : 0 ≤ p1 ∧ p1 ≤ 1)  : GO (am_XX L xs sio) (d) 57 0 [some (.inr (.inr (some 43))), some (.inl p1), none] [] (SH, dt) (fun r w2 => ∃ dt2 : Nat → Nat → Int, w2 = (SH, dt2) ∧ InvC dt2 ∧ Fr [51] dt dt2 ∧ ((r = none ∧ True))) := by
  have hF : Fr [51] dt dt := Fr_refl
  refine go_toq PM57 (k := 2) (pc' := 2) (L' := [some (.inr (.inr (some 43))), some (.inl p1), some (.inl 0)]) (st' := []) (w' := (SH, dt)) rfl ?_
  have loop25 : ∀ (k_ : Nat) (l2_2 : Int) (dt21 : Nat → Nat → Int) (hI22 : InvC dt21) (hF23 : Fr [51] dt dt21) (i24 : 0 ≤ l2_2 ∧ l2_2 ≤ 3), (4 - l2_2).toNat < k_ → GO (am_XX L xs sio) (d) 57 2 [some (.inr (.inr (some 43))), some (.inl p1), some (.inl l2_2)] [] (SH, dt21) (fun r w2 => ∃ dt2 : Nat → Nat → Int, w2 = (SH, dt2) ∧ InvC dt2 ∧ Fr [51] dt dt2 ∧ ((r = none ∧ True))) := by
    intro k_
    induction k_ with
    | zero => intro l2_2 dt21 hI22 hF23 i24 hm; exact absurd hm (Nat.not_lt_zero _)
    | succ k_ ih_loop25 =>
      intro l2_2 dt21 hI22 hF23 i24 hm
      refine go_ifq PM57 (k := 2) (p1 := 29) (p2 := 7) (L' := [some (.inr (.inr (some 43))), some (.inl p1), some (.inl l2_2)]) (st' := []) (w' := (SH, dt21)) rfl (c_ge (a := l2_2) (b := 3) (by first | exact bnd i24 (by decide) (by decide) | exact ⟨by fail, by fail⟩) ⟨by decide, by decide⟩) (fun c30 => ?_) (fun c30 => ?_)
      · skip
        refine go_retq PM57 (k := 0) (r := none) (w1 := (SH, dt21)) rfl ?_
        exact ⟨dt21, rfl, hI22, hF23, ⟨rfl, trivial⟩⟩
      · skip
        refine go_toq PM57 (k := 10) (pc' := 21) (L' := [some (.inr (.inr (some 43))), some (.inl p1), some (.inl l2_2)]) (st' := [.inl l2_2, .inr (.inr (some 47)), .inl ((p1 * 3) + l2_2), .inr (.inr (some 51))]) (w' := (SH, dt21)) rfl ?_
        have r31 : (-2147483648) ≤ dt21 47 (l2_2).toNat ∧ dt21 47 (l2_2).toNat ≤ 2147483647 := InvC_get hI22 47 (l2_2).toNat rfl rfl
        refine go_smpq PM57 (L' := [some (.inr (.inr (some 43))), some (.inl p1), some (.inl l2_2)]) (st' := [.inl (dt21 47 (l2_2).toNat), .inl ((p1 * 3) + l2_2), .inr (.inr (some 51))]) (w' := (SH, dt21)) rfl rfl (s_iald (n := 3) (f := dt21 47) rfl (by first | exact bndc i24 c30 (by decide) (by decide) | exact bndx i24 (by decide) (by decide) | exact ⟨by fail, by fail⟩)) ?_
        have hI32 : InvC (u2 dt21 51 (((p1 * 3) + l2_2).toNat) (dt21 47 (l2_2).toNat)) := InvC_u2 hI22 (lo := -2147483648) (hi := 2147483647) rfl rfl rfl (by first | exact bnd1 r31 (by decide) | fail) (by first | exact bnd2 r31 (by decide) | fail)
        have hF33 : Fr [51] dt (u2 dt21 51 (((p1 * 3) + l2_2).toNat) (dt21 47 (l2_2).toNat)) := Fr_u2 hF23 (by decide)
        refine go_smpq PM57 (L' := [some (.inr (.inr (some 43))), some (.inl p1), some (.inl l2_2)]) (st' := []) (w' := (SH, (u2 dt21 51 (((p1 * 3) + l2_2).toNat) (dt21 47 (l2_2).toNat)))) rfl rfl (s_iast (n := 6) rfl ⟨by omega, by omega⟩ (by first | exact bnd r31 (by decide) (by decide) | exact ⟨by fail, by fail⟩)) ?_
        refine go_toq PM57 (k := 2) (pc' := 2) (L' := [some (.inr (.inr (some 43))), some (.inl p1), some (.inl (l2_2 + 1))]) (st' := []) (w' := (SH, (u2 dt21 51 (((p1 * 3) + l2_2).toNat) (dt21 47 (l2_2).toNat)))) rfl ?_
        exact GO.le (ih_loop25 (l2_2 + 1) (u2 dt21 51 (((p1 * 3) + l2_2).toNat) (dt21 47 (l2_2).toNat)) hI32 hF33 (by first | exact bndp i24 (by decide) (by decide) | exact bnde i24 c30 (by decide) (by decide) | fail) (by omega)) ⟨.inl rfl, .inl rfl, .inl rfl, trivial⟩
  exact GO.le (loop25 _ 0 dt hI hF ⟨by decide, by decide⟩ (Nat.lt_succ_self _)) ⟨.inl rfl, .inl rfl, .inl rfl, trivial⟩
theorem sp_X4_see_43 (L : Nat) (xs : Nat → Int32) (sio : Option Nat) (d : Nat) (dt : Nat → Nat → Int) (hI : InvC dt)  (p1 : Int) (h_p1 : 0 ≤ p1 ∧ p1 ≤ 3) (p2 : Int) (h_p2 : 0 ≤ p2 ∧ p2 ≤ 3) (p3 : Int) (h_p3 : 0 ≤ p3 ∧ p3 ≤ 2) (p4 : Int) (h_p4 : 0 ≤ p4 ∧ p4 ≤ 3)  : GO (am_XX L xs sio) (d + 1) 59 0 [some (.inr (.inr (some 43))), some (.inl p1), some (.inl p2), some (.inl p3), some (.inl p4), none, none] [] (SH, dt) (fun r w2 => ∃ dt2 : Nat → Nat → Int, w2 = (SH, dt2) ∧ InvC dt2 ∧ Fr [52, 53, 56] dt dt2 ∧ ((r = none ∧ True))) := by
  have hF : Fr [52, 53, 56] dt dt := Fr_refl
  refine go_toq PM59 (k := 2) (pc' := 2) (L' := [some (.inr (.inr (some 43))), some (.inl p1), some (.inl p2), some (.inl p3), some (.inl p4), none, none]) (st' := [.inl p1, .inr (.inr (some 43))]) (w' := (SH, dt)) rfl ?_
  refine go_callq PM59 PM54 (Q' := _) rfl rfl rfl rfl (sp_X4_canSee_43 L xs sio (d + 0) dt hI  p1 (by first | exact h_p1 | exact bnd h_p1 (by decide) (by decide) | exact ⟨by fail, by fail⟩) ) ?_
  rintro _ _ ⟨rfl, h1⟩
  refine ⟨rfl, ?_⟩
  rcases h1 with ⟨rfl, h1⟩ | ⟨rfl, h1⟩
  · skip
    refine go_toq PM59 (k := 9) (pc' := 18) (L' := [some (.inr (.inr (some 43))), some (.inl p1), some (.inl p2), some (.inl p3), some (.inl p4), some (.inl 1), none]) (st' := [.inl p4, .inl ((p1 * 3) + p3), .inr (.inr (some 52))]) (w' := (SH, dt)) rfl ?_
    have hI2 : InvC (u2 dt 52 (((p1 * 3) + p3).toNat) p4) := InvC_u2 hI (lo := -2147483648) (hi := 2147483647) rfl rfl rfl (by first | exact bnd1 h_p4 (by decide) | fail) (by first | exact bnd2 h_p4 (by decide) | fail)
    have hF3 : Fr [52, 53, 56] dt (u2 dt 52 (((p1 * 3) + p3).toNat) p4) := Fr_u2 hF (by decide)
    refine go_smpq PM59 (L' := [some (.inr (.inr (some 43))), some (.inl p1), some (.inl p2), some (.inl p3), some (.inl p4), some (.inl 1), none]) (st' := []) (w' := (SH, (u2 dt 52 (((p1 * 3) + p3).toNat) p4))) rfl rfl (s_iast (n := 12) rfl ⟨by omega, by omega⟩ (by first | exact bnd h_p4 (by decide) (by decide) | exact ⟨by fail, by fail⟩)) ?_
    refine go_toq PM59 (k := 8) (pc' := 30) (L' := [some (.inr (.inr (some 43))), some (.inl p1), some (.inl p2), some (.inl p3), some (.inl p4), some (.inl 1), none]) (st' := [.inl p4, .inl ((p1 * 3) + p3), .inr (.inr (some 53))]) (w' := (SH, (u2 dt 52 (((p1 * 3) + p3).toNat) p4))) rfl ?_
    have hI4 : InvC (u2 (u2 dt 52 (((p1 * 3) + p3).toNat) p4) 53 (((p1 * 3) + p3).toNat) p4) := InvC_u2 hI2 (lo := -2147483648) (hi := 2147483647) rfl rfl rfl (by first | exact bnd1 h_p4 (by decide) | fail) (by first | exact bnd2 h_p4 (by decide) | fail)
    have hF5 : Fr [52, 53, 56] dt (u2 (u2 dt 52 (((p1 * 3) + p3).toNat) p4) 53 (((p1 * 3) + p3).toNat) p4) := Fr_u2 hF3 (by decide)
    refine go_smpq PM59 (L' := [some (.inr (.inr (some 43))), some (.inl p1), some (.inl p2), some (.inl p3), some (.inl p4), some (.inl 1), none]) (st' := []) (w' := (SH, (u2 (u2 dt 52 (((p1 * 3) + p3).toNat) p4) 53 (((p1 * 3) + p3).toNat) p4))) rfl rfl (s_iast (n := 12) rfl ⟨by omega, by omega⟩ (by first | exact bnd h_p4 (by decide) (by decide) | exact ⟨by fail, by fail⟩)) ?_
    refine go_toq PM59 (k := 2) (pc' := 34) (L' := [some (.inr (.inr (some 43))), some (.inl p1), some (.inl p2), some (.inl p3), some (.inl p4), some (.inl 1), some (.inl 0)]) (st' := []) (w' := (SH, (u2 (u2 dt 52 (((p1 * 3) + p3).toNat) p4) 53 (((p1 * 3) + p3).toNat) p4))) rfl ?_
    have loop60 : ∀ (k_ : Nat) (l34_6 : Int) (dt56 : Nat → Nat → Int) (hI57 : InvC dt56) (hF58 : Fr [52, 53, 56] dt dt56) (i59 : 0 ≤ l34_6 ∧ l34_6 ≤ 4), (5 - l34_6).toNat < k_ → GO (am_XX L xs sio) (d + 1) 59 34 [some (.inr (.inr (some 43))), some (.inl p1), some (.inl p2), some (.inl p3), some (.inl p4), some (.inl 1), some (.inl l34_6)] [] (SH, dt56) (fun r w2 => ∃ dt2 : Nat → Nat → Int, w2 = (SH, dt2) ∧ InvC dt2 ∧ Fr [52, 53, 56] dt dt2 ∧ ((r = none ∧ True))) := by
      intro k_
      induction k_ with
      | zero => intro l34_6 dt56 hI57 hF58 i59 hm; exact absurd hm (Nat.not_lt_zero _)
      | succ k_ ih_loop60 =>
        intro l34_6 dt56 hI57 hF58 i59 hm
        refine go_ifq PM59 (k := 2) (p1 := 90) (p2 := 40) (L' := [some (.inr (.inr (some 43))), some (.inl p1), some (.inl p2), some (.inl p3), some (.inl p4), some (.inl 1), some (.inl l34_6)]) (st' := []) (w' := (SH, dt56)) rfl (c_ge (a := l34_6) (b := 4) (by first | exact bnd i59 (by decide) (by decide) | exact ⟨by fail, by fail⟩) ⟨by decide, by decide⟩) (fun c70 => ?_) (fun c70 => ?_)
        · skip
          refine go_retq PM59 (k := 0) (r := none) (w1 := (SH, dt56)) rfl ?_
          exact ⟨dt56, rfl, hI57, hF58, ⟨rfl, trivial⟩⟩
        · skip
          have j78 : ∀ (j78_d : Nat → Nat → Int) (j78_hI : InvC j78_d) (j78_hF : Fr [52, 53, 56] dt j78_d), GO (am_XX L xs sio) (d + 1) 59 84 [some (.inr (.inr (some 43))), some (.inl p1), some (.inl p2), some (.inl p3), some (.inl p4), some (.inl 1), some (.inl l34_6)] [] (SH, j78_d) (fun r w2 => ∃ dt2 : Nat → Nat → Int, w2 = (SH, dt2) ∧ InvC dt2 ∧ Fr [52, 53, 56] dt dt2 ∧ ((r = none ∧ True))) := by
            intro j78_d j78_hI j78_hF
            refine go_toq PM59 (k := 2) (pc' := 34) (L' := [some (.inr (.inr (some 43))), some (.inl p1), some (.inl p2), some (.inl p3), some (.inl p4), some (.inl 1), some (.inl (l34_6 + 1))]) (st' := []) (w' := (SH, j78_d)) rfl ?_
            exact GO.le (ih_loop60 (l34_6 + 1) j78_d j78_hI j78_hF (by first | exact bndp i59 (by decide) (by decide) | exact bnde i59 c70 (by decide) (by decide) | fail) (by omega)) ⟨.inl rfl, .inl rfl, .inl rfl, .inl rfl, .inl rfl, .inl rfl, .inl rfl, trivial⟩
          refine go_ifq PM59 (k := 2) (p1 := 84) (p2 := 46) (L' := [some (.inr (.inr (some 43))), some (.inl p1), some (.inl p2), some (.inl p3), some (.inl p4), some (.inl 1), some (.inl l34_6)]) (st' := []) (w' := (SH, dt56)) rfl (c_eq (a := l34_6) (b := p1) (by first | exact bnd i59 (by decide) (by decide) | exact bndd i59 c70 (by decide) (by decide) | exact ⟨by fail, by fail⟩) (by first | exact bnd h_p1 (by decide) (by decide) | exact ⟨by fail, by fail⟩)) (fun c79 => ?_) (fun c79 => ?_)
          · skip
            exact GO.le (j78 dt56 hI57 hF58) ⟨.inl rfl, .inl rfl, .inl rfl, .inl rfl, .inl rfl, .inl rfl, .inl rfl, trivial⟩
          · skip
            replace c79 := hid c79
            refine go_ifq PM59 (k := 2) (p1 := 67) (p2 := 52) (L' := [some (.inr (.inr (some 43))), some (.inl p1), some (.inl p2), some (.inl p3), some (.inl p4), some (.inl 1), some (.inl l34_6)]) (st' := []) (w' := (SH, dt56)) rfl (c_eq (a := l34_6) (b := p2) (by first | exact bnd i59 (by decide) (by decide) | exact bndd i59 c70 (by decide) (by decide) | exact ⟨by fail, by fail⟩) (by first | exact bnd h_p2 (by decide) (by decide) | exact ⟨by fail, by fail⟩)) (fun c80 => ?_) (fun c80 => ?_)
            · skip
              refine go_toq PM59 (k := 12) (pc' := 83) (L' := [some (.inr (.inr (some 43))), some (.inl p1), some (.inl p2), some (.inl p3), some (.inl p4), some (.inl 1), some (.inl l34_6)]) (st' := [.inl p4, .inl ((((p1 * 4) + l34_6) * 3) + p3), .inr (.inr (some 56))]) (w' := (SH, dt56)) rfl ?_
              have hI81 : InvC (u2 dt56 56 (((((p1 * 4) + l34_6) * 3) + p3).toNat) p4) := InvC_u2 hI57 (lo := -2147483648) (hi := 2147483647) rfl rfl rfl (by first | exact bnd1 h_p4 (by decide) | fail) (by first | exact bnd2 h_p4 (by decide) | fail)
              have hF82 : Fr [52, 53, 56] dt (u2 dt56 56 (((((p1 * 4) + l34_6) * 3) + p3).toNat) p4) := Fr_u2 hF58 (by decide)
              refine go_smpq PM59 (L' := [some (.inr (.inr (some 43))), some (.inl p1), some (.inl p2), some (.inl p3), some (.inl p4), some (.inl 1), some (.inl l34_6)]) (st' := []) (w' := (SH, (u2 dt56 56 (((((p1 * 4) + l34_6) * 3) + p3).toNat) p4))) rfl rfl (s_iast (n := 48) rfl ⟨by omega, by omega⟩ (by first | exact bnd h_p4 (by decide) (by decide) | exact ⟨by fail, by fail⟩)) ?_
              exact GO.le (j78 (u2 dt56 56 (((((p1 * 4) + l34_6) * 3) + p3).toNat) p4) hI81 hF82) ⟨.inl rfl, .inl rfl, .inl rfl, .inl rfl, .inl rfl, .inl rfl, .inl rfl, trivial⟩
            · skip
              replace c80 := hid c80
              refine go_toq PM59 (k := 5) (pc' := 61) (L' := [some (.inr (.inr (some 43))), some (.inl p1), some (.inl p2), some (.inl p3), some (.inl p4), some (.inl 1), some (.inl l34_6)]) (st' := [.inl p1, .inl l34_6, .inr (.inr (some 43))]) (w' := (SH, dt56)) rfl ?_
              refine go_callq PM59 PM55 (Q' := _) rfl rfl rfl rfl (sp_X4_seemsToSee_43 L xs sio (d + 0) dt56 hI57  l34_6 (by first | exact bnd i59 (by decide) (by decide) | exact bndd i59 c70 (by decide) (by decide) | exact ⟨by fail, by fail⟩) p1 (by first | exact h_p1 | exact bnd h_p1 (by decide) (by decide) | exact ⟨by fail, by fail⟩) ) ?_
              rintro _ _ ⟨rfl, h83⟩
              refine ⟨rfl, ?_⟩
              rcases h83 with ⟨rfl, h83⟩ | ⟨rfl, h83⟩
              · skip
                refine go_toq PM59 (k := 13) (pc' := 83) (L' := [some (.inr (.inr (some 43))), some (.inl p1), some (.inl p2), some (.inl p3), some (.inl p4), some (.inl 1), some (.inl l34_6)]) (st' := [.inl p4, .inl ((((p1 * 4) + l34_6) * 3) + p3), .inr (.inr (some 56))]) (w' := (SH, dt56)) rfl ?_
                have hI84 : InvC (u2 dt56 56 (((((p1 * 4) + l34_6) * 3) + p3).toNat) p4) := InvC_u2 hI57 (lo := -2147483648) (hi := 2147483647) rfl rfl rfl (by first | exact bnd1 h_p4 (by decide) | fail) (by first | exact bnd2 h_p4 (by decide) | fail)
                have hF85 : Fr [52, 53, 56] dt (u2 dt56 56 (((((p1 * 4) + l34_6) * 3) + p3).toNat) p4) := Fr_u2 hF58 (by decide)
                refine go_smpq PM59 (L' := [some (.inr (.inr (some 43))), some (.inl p1), some (.inl p2), some (.inl p3), some (.inl p4), some (.inl 1), some (.inl l34_6)]) (st' := []) (w' := (SH, (u2 dt56 56 (((((p1 * 4) + l34_6) * 3) + p3).toNat) p4))) rfl rfl (s_iast (n := 48) rfl ⟨by omega, by omega⟩ (by first | exact bnd h_p4 (by decide) (by decide) | exact ⟨by fail, by fail⟩)) ?_
                exact GO.le (j78 (u2 dt56 56 (((((p1 * 4) + l34_6) * 3) + p3).toNat) p4) hI84 hF85) ⟨.inl rfl, .inl rfl, .inl rfl, .inl rfl, .inl rfl, .inl rfl, .inl rfl, trivial⟩
              · skip
                refine go_toq PM59 (k := 1) (pc' := 84) (L' := [some (.inr (.inr (some 43))), some (.inl p1), some (.inl p2), some (.inl p3), some (.inl p4), some (.inl 1), some (.inl l34_6)]) (st' := []) (w' := (SH, dt56)) rfl ?_
                exact GO.le (j78 dt56 hI57 hF58) ⟨.inl rfl, .inl rfl, .inl rfl, .inl rfl, .inl rfl, .inl rfl, .inl rfl, trivial⟩
    exact GO.le (loop60 _ 0 (u2 (u2 dt 52 (((p1 * 3) + p3).toNat) p4) 53 (((p1 * 3) + p3).toNat) p4) hI4 hF5 ⟨by decide, by decide⟩ (Nat.lt_succ_self _)) ⟨.inl rfl, .inl rfl, .inl rfl, .inl rfl, .inl rfl, .inl rfl, .inl rfl, trivial⟩
  · skip
    refine go_toq PM59 (k := 9) (pc' := 18) (L' := [some (.inr (.inr (some 43))), some (.inl p1), some (.inl p2), some (.inl p3), some (.inl p4), some (.inl 0), none]) (st' := [.inl p4, .inl ((p1 * 3) + p3), .inr (.inr (some 52))]) (w' := (SH, dt)) rfl ?_
    have hI86 : InvC (u2 dt 52 (((p1 * 3) + p3).toNat) p4) := InvC_u2 hI (lo := -2147483648) (hi := 2147483647) rfl rfl rfl (by first | exact bnd1 h_p4 (by decide) | fail) (by first | exact bnd2 h_p4 (by decide) | fail)
    have hF87 : Fr [52, 53, 56] dt (u2 dt 52 (((p1 * 3) + p3).toNat) p4) := Fr_u2 hF (by decide)
    refine go_smpq PM59 (L' := [some (.inr (.inr (some 43))), some (.inl p1), some (.inl p2), some (.inl p3), some (.inl p4), some (.inl 0), none]) (st' := []) (w' := (SH, (u2 dt 52 (((p1 * 3) + p3).toNat) p4))) rfl rfl (s_iast (n := 12) rfl ⟨by omega, by omega⟩ (by first | exact bnd h_p4 (by decide) (by decide) | exact ⟨by fail, by fail⟩)) ?_
    refine go_toq PM59 (k := 8) (pc' := 30) (L' := [some (.inr (.inr (some 43))), some (.inl p1), some (.inl p2), some (.inl p3), some (.inl p4), some (.inl 0), none]) (st' := [.inl p4, .inl ((p1 * 3) + p3), .inr (.inr (some 53))]) (w' := (SH, (u2 dt 52 (((p1 * 3) + p3).toNat) p4))) rfl ?_
    have hI88 : InvC (u2 (u2 dt 52 (((p1 * 3) + p3).toNat) p4) 53 (((p1 * 3) + p3).toNat) p4) := InvC_u2 hI86 (lo := -2147483648) (hi := 2147483647) rfl rfl rfl (by first | exact bnd1 h_p4 (by decide) | fail) (by first | exact bnd2 h_p4 (by decide) | fail)
    have hF89 : Fr [52, 53, 56] dt (u2 (u2 dt 52 (((p1 * 3) + p3).toNat) p4) 53 (((p1 * 3) + p3).toNat) p4) := Fr_u2 hF87 (by decide)
    refine go_smpq PM59 (L' := [some (.inr (.inr (some 43))), some (.inl p1), some (.inl p2), some (.inl p3), some (.inl p4), some (.inl 0), none]) (st' := []) (w' := (SH, (u2 (u2 dt 52 (((p1 * 3) + p3).toNat) p4) 53 (((p1 * 3) + p3).toNat) p4))) rfl rfl (s_iast (n := 12) rfl ⟨by omega, by omega⟩ (by first | exact bnd h_p4 (by decide) (by decide) | exact ⟨by fail, by fail⟩)) ?_
    refine go_toq PM59 (k := 2) (pc' := 34) (L' := [some (.inr (.inr (some 43))), some (.inl p1), some (.inl p2), some (.inl p3), some (.inl p4), some (.inl 0), some (.inl 0)]) (st' := []) (w' := (SH, (u2 (u2 dt 52 (((p1 * 3) + p3).toNat) p4) 53 (((p1 * 3) + p3).toNat) p4))) rfl ?_
    have loop129 : ∀ (k_ : Nat) (l34_6 : Int) (dt125 : Nat → Nat → Int) (hI126 : InvC dt125) (hF127 : Fr [52, 53, 56] dt dt125) (i128 : 0 ≤ l34_6 ∧ l34_6 ≤ 4), (5 - l34_6).toNat < k_ → GO (am_XX L xs sio) (d + 1) 59 34 [some (.inr (.inr (some 43))), some (.inl p1), some (.inl p2), some (.inl p3), some (.inl p4), some (.inl 0), some (.inl l34_6)] [] (SH, dt125) (fun r w2 => ∃ dt2 : Nat → Nat → Int, w2 = (SH, dt2) ∧ InvC dt2 ∧ Fr [52, 53, 56] dt dt2 ∧ ((r = none ∧ True))) := by
      intro k_
      induction k_ with
      | zero => intro l34_6 dt125 hI126 hF127 i128 hm; exact absurd hm (Nat.not_lt_zero _)
      | succ k_ ih_loop129 =>
        intro l34_6 dt125 hI126 hF127 i128 hm
        refine go_ifq PM59 (k := 2) (p1 := 90) (p2 := 40) (L' := [some (.inr (.inr (some 43))), some (.inl p1), some (.inl p2), some (.inl p3), some (.inl p4), some (.inl 0), some (.inl l34_6)]) (st' := []) (w' := (SH, dt125)) rfl (c_ge (a := l34_6) (b := 4) (by first | exact bnd i128 (by decide) (by decide) | exact ⟨by fail, by fail⟩) ⟨by decide, by decide⟩) (fun c136 => ?_) (fun c136 => ?_)
        · skip
          refine go_retq PM59 (k := 0) (r := none) (w1 := (SH, dt125)) rfl ?_
          exact ⟨dt125, rfl, hI126, hF127, ⟨rfl, trivial⟩⟩
        · skip
          have j141 : ∀ (j141_d : Nat → Nat → Int) (j141_hI : InvC j141_d) (j141_hF : Fr [52, 53, 56] dt j141_d), GO (am_XX L xs sio) (d + 1) 59 84 [some (.inr (.inr (some 43))), some (.inl p1), some (.inl p2), some (.inl p3), some (.inl p4), some (.inl 0), some (.inl l34_6)] [] (SH, j141_d) (fun r w2 => ∃ dt2 : Nat → Nat → Int, w2 = (SH, dt2) ∧ InvC dt2 ∧ Fr [52, 53, 56] dt dt2 ∧ ((r = none ∧ True))) := by
            intro j141_d j141_hI j141_hF
            refine go_toq PM59 (k := 2) (pc' := 34) (L' := [some (.inr (.inr (some 43))), some (.inl p1), some (.inl p2), some (.inl p3), some (.inl p4), some (.inl 0), some (.inl (l34_6 + 1))]) (st' := []) (w' := (SH, j141_d)) rfl ?_
            exact GO.le (ih_loop129 (l34_6 + 1) j141_d j141_hI j141_hF (by first | exact bndp i128 (by decide) (by decide) | exact bnde i128 c136 (by decide) (by decide) | fail) (by omega)) ⟨.inl rfl, .inl rfl, .inl rfl, .inl rfl, .inl rfl, .inl rfl, .inl rfl, trivial⟩
          refine go_ifq PM59 (k := 2) (p1 := 84) (p2 := 46) (L' := [some (.inr (.inr (some 43))), some (.inl p1), some (.inl p2), some (.inl p3), some (.inl p4), some (.inl 0), some (.inl l34_6)]) (st' := []) (w' := (SH, dt125)) rfl (c_eq (a := l34_6) (b := p1) (by first | exact bnd i128 (by decide) (by decide) | exact bndd i128 c136 (by decide) (by decide) | exact ⟨by fail, by fail⟩) (by first | exact bnd h_p1 (by decide) (by decide) | exact ⟨by fail, by fail⟩)) (fun c142 => ?_) (fun c142 => ?_)
          · skip
            exact GO.le (j141 dt125 hI126 hF127) ⟨.inl rfl, .inl rfl, .inl rfl, .inl rfl, .inl rfl, .inl rfl, .inl rfl, trivial⟩
          · skip
            replace c142 := hid c142
            refine go_ifq PM59 (k := 2) (p1 := 67) (p2 := 52) (L' := [some (.inr (.inr (some 43))), some (.inl p1), some (.inl p2), some (.inl p3), some (.inl p4), some (.inl 0), some (.inl l34_6)]) (st' := []) (w' := (SH, dt125)) rfl (c_eq (a := l34_6) (b := p2) (by first | exact bnd i128 (by decide) (by decide) | exact bndd i128 c136 (by decide) (by decide) | exact ⟨by fail, by fail⟩) (by first | exact bnd h_p2 (by decide) (by decide) | exact ⟨by fail, by fail⟩)) (fun c143 => ?_) (fun c143 => ?_)
            · skip
              refine go_toq PM59 (k := 12) (pc' := 83) (L' := [some (.inr (.inr (some 43))), some (.inl p1), some (.inl p2), some (.inl p3), some (.inl p4), some (.inl 0), some (.inl l34_6)]) (st' := [.inl p4, .inl ((((p1 * 4) + l34_6) * 3) + p3), .inr (.inr (some 56))]) (w' := (SH, dt125)) rfl ?_
              have hI144 : InvC (u2 dt125 56 (((((p1 * 4) + l34_6) * 3) + p3).toNat) p4) := InvC_u2 hI126 (lo := -2147483648) (hi := 2147483647) rfl rfl rfl (by first | exact bnd1 h_p4 (by decide) | fail) (by first | exact bnd2 h_p4 (by decide) | fail)
              have hF145 : Fr [52, 53, 56] dt (u2 dt125 56 (((((p1 * 4) + l34_6) * 3) + p3).toNat) p4) := Fr_u2 hF127 (by decide)
              refine go_smpq PM59 (L' := [some (.inr (.inr (some 43))), some (.inl p1), some (.inl p2), some (.inl p3), some (.inl p4), some (.inl 0), some (.inl l34_6)]) (st' := []) (w' := (SH, (u2 dt125 56 (((((p1 * 4) + l34_6) * 3) + p3).toNat) p4))) rfl rfl (s_iast (n := 48) rfl ⟨by omega, by omega⟩ (by first | exact bnd h_p4 (by decide) (by decide) | exact ⟨by fail, by fail⟩)) ?_
              exact GO.le (j141 (u2 dt125 56 (((((p1 * 4) + l34_6) * 3) + p3).toNat) p4) hI144 hF145) ⟨.inl rfl, .inl rfl, .inl rfl, .inl rfl, .inl rfl, .inl rfl, .inl rfl, trivial⟩
            · skip
              replace c143 := hid c143
              refine go_toq PM59 (k := 2) (pc' := 84) (L' := [some (.inr (.inr (some 43))), some (.inl p1), some (.inl p2), some (.inl p3), some (.inl p4), some (.inl 0), some (.inl l34_6)]) (st' := []) (w' := (SH, dt125)) rfl ?_
              exact GO.le (j141 dt125 hI126 hF127) ⟨.inl rfl, .inl rfl, .inl rfl, .inl rfl, .inl rfl, .inl rfl, .inl rfl, trivial⟩
    exact GO.le (loop129 _ 0 (u2 (u2 dt 52 (((p1 * 3) + p3).toNat) p4) 53 (((p1 * 3) + p3).toNat) p4) hI88 hF89 ⟨by decide, by decide⟩ (Nat.lt_succ_self _)) ⟨.inl rfl, .inl rfl, .inl rfl, .inl rfl, .inl rfl, .inl rfl, .inl rfl, trivial⟩
theorem sp_X4_bring_43 (L : Nat) (xs : Nat → Int32) (sio : Option Nat) (d : Nat) (dt : Nat → Nat → Int) (hI : InvC dt)  (p1 : Int) (h_p1 : 0 ≤ p1 ∧ p1 ≤ 3) (p2 : Int) (h_p2 : 0 ≤ p2 ∧ p2 ≤ 2) (p3 : Int) (h_p3 : 0 ≤ p3 ∧ p3 ≤ 3) (p4 : Int) (h_p4 : 0 ≤ p4 ∧ p4 ≤ 1)  : GO (am_XX L xs sio) (d + 2) 58 0 [some (.inr (.inr (some 43))), some (.inl p1), some (.inl p2), some (.inl p3), some (.inl p4), none, none] [] (SH, dt) (fun r w2 => ∃ dt2 : Nat → Nat → Int, w2 = (SH, dt2) ∧ InvC dt2 ∧ Fr [47, 48, 49, 50, 52, 53, 54, 55, 56] dt dt2 ∧ ((r = none ∧ True))) := by
  have hF : Fr [47, 48, 49, 50, 52, 53, 54, 55, 56] dt dt := Fr_refl
  refine go_ifq PM58 (k := 1) (p1 := 14) (p2 := 5) (L' := [some (.inr (.inr (some 43))), some (.inl p1), some (.inl p2), some (.inl p3), some (.inl p4), none, none]) (st' := []) (w' := (SH, dt)) rfl (z_eq (a := p4) (by first | exact bnd h_p4 (by decide) (by decide) | exact ⟨by fail, by fail⟩)) (fun c1 => ?_) (fun c1 => ?_)
  · skip
    refine go_retq PM58 (k := 0) (r := none) (w1 := (SH, dt)) rfl ?_
    exact ⟨dt, rfl, hI, hF, ⟨rfl, trivial⟩⟩
  · skip
    have qc1 : 1 ≤ p4 := by omega
    replace c1 := hid c1
    refine go_toq PM58 (k := 3) (pc' := 10) (L' := [some (.inr (.inr (some 43))), some (.inl p1), some (.inl p2), some (.inl p3), some (.inl p4), none, none]) (st' := [.inl p1, .inr (.inr (some 44))]) (w' := (SH, dt)) rfl ?_
    have r2 : (-2147483648) ≤ dt 44 (p1).toNat ∧ dt 44 (p1).toNat ≤ 2147483647 := InvC_get hI 44 (p1).toNat rfl rfl
    refine go_smpq PM58 (L' := [some (.inr (.inr (some 43))), some (.inl p1), some (.inl p2), some (.inl p3), some (.inl p4), none, none]) (st' := [.inl (dt 44 (p1).toNat)]) (w' := (SH, dt)) rfl rfl (s_iald (n := 4) (f := dt 44) rfl (by first | exact bndx h_p1 (by decide) (by decide) | exact ⟨by fail, by fail⟩)) ?_
    refine go_ifq PM58 (k := 0) (p1 := 15) (p2 := 14) (L' := [some (.inr (.inr (some 43))), some (.inl p1), some (.inl p2), some (.inl p3), some (.inl p4), none, none]) (st' := []) (w' := (SH, dt)) rfl (z_ne (a := dt 44 (p1).toNat) (by first | exact bnd r2 (by decide) (by decide) | exact ⟨by fail, by fail⟩)) (fun c3 => ?_) (fun c3 => ?_)
    · skip
      replace c3 := hid c3
      refine go_toq PM58 (k := 3) (pc' := 20) (L' := [some (.inr (.inr (some 43))), some (.inl p1), some (.inl p2), some (.inl p3), some (.inl p4), none, none]) (st' := [.inl p2, .inr (.inr (some 47))]) (w' := (SH, dt)) rfl ?_
      have r4 : (-2147483648) ≤ dt 47 (p2).toNat ∧ dt 47 (p2).toNat ≤ 2147483647 := InvC_get hI 47 (p2).toNat rfl rfl
      refine go_smpq PM58 (L' := [some (.inr (.inr (some 43))), some (.inl p1), some (.inl p2), some (.inl p3), some (.inl p4), none, none]) (st' := [.inl (dt 47 (p2).toNat)]) (w' := (SH, dt)) rfl rfl (s_iald (n := 3) (f := dt 47) rfl (by first | exact bndx h_p2 (by decide) (by decide) | exact ⟨by fail, by fail⟩)) ?_
      have j8 : ∀ (j8_d : Nat → Nat → Int) (j8_hI : InvC j8_d) (j8_hF : Fr [47, 48, 49, 50, 52, 53, 54, 55, 56] dt j8_d), GO (am_XX L xs sio) (d + 2) 58 32 [some (.inr (.inr (some 43))), some (.inl p1), some (.inl p2), some (.inl p3), none, none, none] [] (SH, j8_d) (fun r w2 => ∃ dt2 : Nat → Nat → Int, w2 = (SH, dt2) ∧ InvC dt2 ∧ Fr [47, 48, 49, 50, 52, 53, 54, 55, 56] dt dt2 ∧ ((r = none ∧ True))) := by
        intro j8_d j8_hI j8_hF
        refine go_toq PM58 (k := 6) (pc' := 42) (L' := [some (.inr (.inr (some 43))), some (.inl p1), some (.inl p2), some (.inl p3), none, none, none]) (st' := [.inl p2, .inr (.inr (some 47)), .inl p2, .inr (.inr (some 48))]) (w' := (SH, j8_d)) rfl ?_
        have r9 : (-2147483648) ≤ j8_d 47 (p2).toNat ∧ j8_d 47 (p2).toNat ≤ 2147483647 := InvC_get j8_hI 47 (p2).toNat rfl rfl
        refine go_smpq PM58 (L' := [some (.inr (.inr (some 43))), some (.inl p1), some (.inl p2), some (.inl p3), none, none, none]) (st' := [.inl (j8_d 47 (p2).toNat), .inl p2, .inr (.inr (some 48))]) (w' := (SH, j8_d)) rfl rfl (s_iald (n := 3) (f := j8_d 47) rfl (by first | exact bndx h_p2 (by decide) (by decide) | exact ⟨by fail, by fail⟩)) ?_
        have hI10 : InvC (u2 j8_d 48 (p2).toNat (j8_d 47 (p2).toNat)) := InvC_u2 j8_hI (lo := -2147483648) (hi := 2147483647) rfl rfl rfl (by first | exact bnd1 r9 (by decide) | fail) (by first | exact bnd2 r9 (by decide) | fail)
        have hF11 : Fr [47, 48, 49, 50, 52, 53, 54, 55, 56] dt (u2 j8_d 48 (p2).toNat (j8_d 47 (p2).toNat)) := Fr_u2 j8_hF (by decide)
        refine go_smpq PM58 (L' := [some (.inr (.inr (some 43))), some (.inl p1), some (.inl p2), some (.inl p3), none, none, none]) (st' := []) (w' := (SH, (u2 j8_d 48 (p2).toNat (j8_d 47 (p2).toNat)))) rfl rfl (s_iast (n := 3) rfl (by first | exact bndx h_p2 (by decide) (by decide) | exact ⟨by fail, by fail⟩) (by first | exact bnd r9 (by decide) (by decide) | exact ⟨by fail, by fail⟩)) ?_
        refine go_toq PM58 (k := 4) (pc' := 50) (L' := [some (.inr (.inr (some 43))), some (.inl p1), some (.inl p2), some (.inl p3), none, none, none]) (st' := [.inl p3, .inl p2, .inr (.inr (some 47))]) (w' := (SH, (u2 j8_d 48 (p2).toNat (j8_d 47 (p2).toNat)))) rfl ?_
        have hI12 : InvC (u2 (u2 j8_d 48 (p2).toNat (j8_d 47 (p2).toNat)) 47 (p2).toNat p3) := InvC_u2 hI10 (lo := -2147483648) (hi := 2147483647) rfl rfl rfl (by first | exact bnd1 h_p3 (by decide) | fail) (by first | exact bnd2 h_p3 (by decide) | fail)
        have hF13 : Fr [47, 48, 49, 50, 52, 53, 54, 55, 56] dt (u2 (u2 j8_d 48 (p2).toNat (j8_d 47 (p2).toNat)) 47 (p2).toNat p3) := Fr_u2 hF11 (by decide)
        refine go_smpq PM58 (L' := [some (.inr (.inr (some 43))), some (.inl p1), some (.inl p2), some (.inl p3), none, none, none]) (st' := []) (w' := (SH, (u2 (u2 j8_d 48 (p2).toNat (j8_d 47 (p2).toNat)) 47 (p2).toNat p3))) rfl rfl (s_iast (n := 3) rfl (by first | exact bndx h_p2 (by decide) (by decide) | exact ⟨by fail, by fail⟩) (by first | exact bnd h_p3 (by decide) (by decide) | exact ⟨by fail, by fail⟩)) ?_
        refine go_toq PM58 (k := 4) (pc' := 57) (L' := [some (.inr (.inr (some 43))), some (.inl p1), some (.inl p2), some (.inl p3), none, none, none]) (st' := [.inl p2, .inr (.inr (some 50)), .inl p2, .inr (.inr (some 50))]) (w' := (SH, (u2 (u2 j8_d 48 (p2).toNat (j8_d 47 (p2).toNat)) 47 (p2).toNat p3))) rfl ?_
        have r14 : (-2147483648) ≤ j8_d 50 (p2).toNat ∧ j8_d 50 (p2).toNat ≤ 2147483647 := InvC_get j8_hI 50 (p2).toNat rfl rfl
        refine go_smpq PM58 (L' := [some (.inr (.inr (some 43))), some (.inl p1), some (.inl p2), some (.inl p3), none, none, none]) (st' := [.inl (j8_d 50 (p2).toNat), .inl p2, .inr (.inr (some 50))]) (w' := (SH, (u2 (u2 j8_d 48 (p2).toNat (j8_d 47 (p2).toNat)) 47 (p2).toNat p3))) rfl rfl (s_iald (n := 3) (f := (u2 (u2 j8_d 48 (p2).toNat (j8_d 47 (p2).toNat)) 47 (p2).toNat p3) 50) rfl (by first | exact bndx h_p2 (by decide) (by decide) | exact ⟨by fail, by fail⟩)) ?_
        refine go_toq PM58 (k := 2) (pc' := 60) (L' := [some (.inr (.inr (some 43))), some (.inl p1), some (.inl p2), some (.inl p3), none, none, none]) (st' := [.inl ((j8_d 50 (p2).toNat) + 1), .inl p2, .inr (.inr (some 50))]) (w' := (SH, (u2 (u2 j8_d 48 (p2).toNat (j8_d 47 (p2).toNat)) 47 (p2).toNat p3))) rfl ?_
        have r15 := wr_RR ((j8_d 50 (p2).toNat) + 1)
        have hI16 : InvC (u2 (u2 (u2 j8_d 48 (p2).toNat (j8_d 47 (p2).toNat)) 47 (p2).toNat p3) 50 (p2).toNat (wr ((j8_d 50 (p2).toNat) + 1))) := InvC_u2 hI12 (lo := -2147483648) (hi := 2147483647) rfl rfl rfl (by omega) (by omega)
        have hF17 : Fr [47, 48, 49, 50, 52, 53, 54, 55, 56] dt (u2 (u2 (u2 j8_d 48 (p2).toNat (j8_d 47 (p2).toNat)) 47 (p2).toNat p3) 50 (p2).toNat (wr ((j8_d 50 (p2).toNat) + 1))) := Fr_u2 hF13 (by decide)
        refine go_smpq PM58 (L' := [some (.inr (.inr (some 43))), some (.inl p1), some (.inl p2), some (.inl p3), none, none, none]) (st' := []) (w' := (SH, (u2 (u2 (u2 j8_d 48 (p2).toNat (j8_d 47 (p2).toNat)) 47 (p2).toNat p3) 50 (p2).toNat (wr ((j8_d 50 (p2).toNat) + 1))))) rfl rfl (s_iastw (n := 3) rfl (by first | exact bndx h_p2 (by decide) (by decide) | exact ⟨by fail, by fail⟩)) ?_
        refine go_toq PM58 (k := 8) (pc' := 71) (L' := [some (.inr (.inr (some 43))), some (.inl p1), some (.inl p2), some (.inl p3), none, none, none]) (st' := [.inl p3, .inl ((p1 * 3) + p2), .inr (.inr (some 54))]) (w' := (SH, (u2 (u2 (u2 j8_d 48 (p2).toNat (j8_d 47 (p2).toNat)) 47 (p2).toNat p3) 50 (p2).toNat (wr ((j8_d 50 (p2).toNat) + 1))))) rfl ?_
        have hI18 : InvC (u2 (u2 (u2 (u2 j8_d 48 (p2).toNat (j8_d 47 (p2).toNat)) 47 (p2).toNat p3) 50 (p2).toNat (wr ((j8_d 50 (p2).toNat) + 1))) 54 (((p1 * 3) + p2).toNat) p3) := InvC_u2 hI16 (lo := -2147483648) (hi := 2147483647) rfl rfl rfl (by first | exact bnd1 h_p3 (by decide) | fail) (by first | exact bnd2 h_p3 (by decide) | fail)
        have hF19 : Fr [47, 48, 49, 50, 52, 53, 54, 55, 56] dt (u2 (u2 (u2 (u2 j8_d 48 (p2).toNat (j8_d 47 (p2).toNat)) 47 (p2).toNat p3) 50 (p2).toNat (wr ((j8_d 50 (p2).toNat) + 1))) 54 (((p1 * 3) + p2).toNat) p3) := Fr_u2 hF17 (by decide)
        refine go_smpq PM58 (L' := [some (.inr (.inr (some 43))), some (.inl p1), some (.inl p2), some (.inl p3), none, none, none]) (st' := []) (w' := (SH, (u2 (u2 (u2 (u2 j8_d 48 (p2).toNat (j8_d 47 (p2).toNat)) 47 (p2).toNat p3) 50 (p2).toNat (wr ((j8_d 50 (p2).toNat) + 1))) 54 (((p1 * 3) + p2).toNat) p3))) rfl rfl (s_iast (n := 12) rfl ⟨by omega, by omega⟩ (by first | exact bnd h_p3 (by decide) (by decide) | exact ⟨by fail, by fail⟩)) ?_
        refine go_toq PM58 (k := 2) (pc' := 75) (L' := [some (.inr (.inr (some 43))), some (.inl p1), some (.inl p2), some (.inl p3), none, some (.inl 0), none]) (st' := []) (w' := (SH, (u2 (u2 (u2 (u2 j8_d 48 (p2).toNat (j8_d 47 (p2).toNat)) 47 (p2).toNat p3) 50 (p2).toNat (wr ((j8_d 50 (p2).toNat) + 1))) 54 (((p1 * 3) + p2).toNat) p3))) rfl ?_
        have loop94 : ∀ (k_ : Nat) (l75_5 : Int) (dt90 : Nat → Nat → Int) (hI91 : InvC dt90) (hF92 : Fr [47, 48, 49, 50, 52, 53, 54, 55, 56] dt dt90) (i93 : 0 ≤ l75_5 ∧ l75_5 ≤ 4), (5 - l75_5).toNat < k_ → GO (am_XX L xs sio) (d + 2) 58 75 [some (.inr (.inr (some 43))), some (.inl p1), some (.inl p2), some (.inl p3), none, some (.inl l75_5), none] [] (SH, dt90) (fun r w2 => ∃ dt2 : Nat → Nat → Int, w2 = (SH, dt2) ∧ InvC dt2 ∧ Fr [47, 48, 49, 50, 52, 53, 54, 55, 56] dt dt2 ∧ ((r = none ∧ True))) := by
          intro k_
          induction k_ with
          | zero => intro l75_5 dt90 hI91 hF92 i93 hm; exact absurd hm (Nat.not_lt_zero _)
          | succ k_ ih_loop94 =>
            intro l75_5 dt90 hI91 hF92 i93 hm
            refine go_ifq PM58 (k := 2) (p1 := 144) (p2 := 81) (L' := [some (.inr (.inr (some 43))), some (.inl p1), some (.inl p2), some (.inl p3), none, some (.inl l75_5), none]) (st' := []) (w' := (SH, dt90)) rfl (c_ge (a := l75_5) (b := 4) (by first | exact bnd i93 (by decide) (by decide) | exact ⟨by fail, by fail⟩) ⟨by decide, by decide⟩) (fun c108 => ?_) (fun c108 => ?_)
            · skip
              refine go_retq PM58 (k := 0) (r := none) (w1 := (SH, dt90)) rfl ?_
              exact ⟨dt90, rfl, hI91, hF92, ⟨rfl, trivial⟩⟩
            · skip
              have j111 :  GO (am_XX L xs sio) (d + 2) 58 101 [some (.inr (.inr (some 43))), some (.inl p1), some (.inl p2), some (.inl p3), none, some (.inl l75_5), none] [.inl 1] (SH, dt90) (fun r w2 => ∃ dt2 : Nat → Nat → Int, w2 = (SH, dt2) ∧ InvC dt2 ∧ Fr [47, 48, 49, 50, 52, 53, 54, 55, 56] dt dt2 ∧ ((r = none ∧ True))) := by
                skip
                refine go_toq PM58 (k := 12) (pc' := 123) (L' := [some (.inr (.inr (some 43))), some (.inl p1), some (.inl p2), some (.inl p3), none, some (.inl l75_5), some (.inl 1)]) (st' := [.inl 1, .inl ((l75_5 * 3) + p2), .inr (.inr (some 55))]) (w' := (SH, dt90)) rfl ?_
                have hI112 : InvC (u2 dt90 55 (((l75_5 * 3) + p2).toNat) 1) := InvC_u2 hI91 (lo := -2147483648) (hi := 2147483647) rfl rfl rfl (by decide) (by decide)
                have hF113 : Fr [47, 48, 49, 50, 52, 53, 54, 55, 56] dt (u2 dt90 55 (((l75_5 * 3) + p2).toNat) 1) := Fr_u2 hF92 (by decide)
                refine go_smpq PM58 (L' := [some (.inr (.inr (some 43))), some (.inl p1), some (.inl p2), some (.inl p3), none, some (.inl l75_5), some (.inl 1)]) (st' := []) (w' := (SH, (u2 dt90 55 (((l75_5 * 3) + p2).toNat) 1))) rfl rfl (s_iast (n := 12) rfl ⟨by omega, by omega⟩ ⟨by decide, by decide⟩) ?_
                refine go_toq PM58 (k := 7) (pc' := 135) (L' := [some (.inr (.inr (some 43))), some (.inl p1), some (.inl p2), some (.inl p3), none, some (.inl l75_5), some (.inl 1)]) (st' := [.inl p3, .inl p2, .inl p1, .inl l75_5, .inr (.inr (some 43))]) (w' := (SH, (u2 dt90 55 (((l75_5 * 3) + p2).toNat) 1))) rfl ?_
                refine go_callq PM58 PM59 (Q' := _) rfl rfl rfl rfl (sp_X4_see_43 L xs sio (d + 0) (u2 dt90 55 (((l75_5 * 3) + p2).toNat) 1) hI112  l75_5 (by first | exact bnd i93 (by decide) (by decide) | exact bndd i93 c108 (by decide) (by decide) | exact ⟨by fail, by fail⟩) p1 (by first | exact h_p1 | exact bnd h_p1 (by decide) (by decide) | exact ⟨by fail, by fail⟩) p2 (by first | exact h_p2 | exact bnd h_p2 (by decide) (by decide) | exact ⟨by fail, by fail⟩) p3 (by first | exact h_p3 | exact bnd h_p3 (by decide) (by decide) | exact ⟨by fail, by fail⟩) ) ?_
                rintro _ _ ⟨dt120, rfl, hI121, hF122, h119⟩
                refine ⟨rfl, ?_⟩
                have hF123 : Fr [47, 48, 49, 50, 52, 53, 54, 55, 56] dt dt120 := Fr_tr hF113 hF122 (by decide)
                rcases h119 with ⟨rfl, h119⟩
                refine go_toq PM58 (k := 2) (pc' := 75) (L' := [some (.inr (.inr (some 43))), some (.inl p1), some (.inl p2), some (.inl p3), none, some (.inl (l75_5 + 1)), some (.inl 1)]) (st' := []) (w' := (SH, dt120)) rfl ?_
                exact GO.le (ih_loop94 (l75_5 + 1) dt120 hI121 hF123 (by first | exact bndp i93 (by decide) (by decide) | exact bnde i93 c108 (by decide) (by decide) | fail) (by omega)) ⟨.inl rfl, .inl rfl, .inl rfl, .inl rfl, .inl rfl, .inl rfl, .inr ⟨rfl, trivial⟩, trivial⟩
              refine go_ifq PM58 (k := 2) (p1 := 96) (p2 := 87) (L' := [some (.inr (.inr (some 43))), some (.inl p1), some (.inl p2), some (.inl p3), none, some (.inl l75_5), none]) (st' := []) (w' := (SH, dt90)) rfl (c_eq (a := l75_5) (b := p1) (by first | exact bnd i93 (by decide) (by decide) | exact bndd i93 c108 (by decide) (by decide) | exact ⟨by fail, by fail⟩) (by first | exact bnd h_p1 (by decide) (by decide) | exact ⟨by fail, by fail⟩)) (fun c124 => ?_) (fun c124 => ?_)
              · skip
                refine go_toq PM58 (k := 2) (pc' := 101) (L' := [some (.inr (.inr (some 43))), some (.inl p1), some (.inl p2), some (.inl p3), none, some (.inl l75_5), none]) (st' := [.inl 1]) (w' := (SH, dt90)) rfl ?_
                exact GO.le (j111 ) ⟨.inl rfl, .inl rfl, .inl rfl, .inl rfl, .inl rfl, .inl rfl, .inl rfl, trivial⟩
              · skip
                replace c124 := hid c124
                refine go_toq PM58 (k := 2) (pc' := 90) (L' := [some (.inr (.inr (some 43))), some (.inl p1), some (.inl p2), some (.inl p3), none, some (.inl l75_5), none]) (st' := [.inl l75_5, .inr (.inr (some 43))]) (w' := (SH, dt90)) rfl ?_
                refine go_callq PM58 PM54 (Q' := _) rfl rfl rfl rfl (sp_X4_canSee_43 L xs sio (d + 1) dt90 hI91  l75_5 (by first | exact bnd i93 (by decide) (by decide) | exact bndd i93 c108 (by decide) (by decide) | exact ⟨by fail, by fail⟩) ) ?_
                rintro _ _ ⟨rfl, h125⟩
                refine ⟨rfl, ?_⟩
                rcases h125 with ⟨rfl, h125⟩ | ⟨rfl, h125⟩
                · skip
                  refine go_toq PM58 (k := 3) (pc' := 101) (L' := [some (.inr (.inr (some 43))), some (.inl p1), some (.inl p2), some (.inl p3), none, some (.inl l75_5), none]) (st' := [.inl 1]) (w' := (SH, dt90)) rfl ?_
                  exact GO.le (j111 ) ⟨.inl rfl, .inl rfl, .inl rfl, .inl rfl, .inl rfl, .inl rfl, .inl rfl, trivial⟩
                · skip
                  refine go_toq PM58 (k := 13) (pc' := 123) (L' := [some (.inr (.inr (some 43))), some (.inl p1), some (.inl p2), some (.inl p3), none, some (.inl l75_5), some (.inl 0)]) (st' := [.inl 0, .inl ((l75_5 * 3) + p2), .inr (.inr (some 55))]) (w' := (SH, dt90)) rfl ?_
                  have hI126 : InvC (u2 dt90 55 (((l75_5 * 3) + p2).toNat) 0) := InvC_u2 hI91 (lo := -2147483648) (hi := 2147483647) rfl rfl rfl (by decide) (by decide)
                  have hF127 : Fr [47, 48, 49, 50, 52, 53, 54, 55, 56] dt (u2 dt90 55 (((l75_5 * 3) + p2).toNat) 0) := Fr_u2 hF92 (by decide)
                  refine go_smpq PM58 (L' := [some (.inr (.inr (some 43))), some (.inl p1), some (.inl p2), some (.inl p3), none, some (.inl l75_5), some (.inl 0)]) (st' := []) (w' := (SH, (u2 dt90 55 (((l75_5 * 3) + p2).toNat) 0))) rfl rfl (s_iast (n := 12) rfl ⟨by omega, by omega⟩ ⟨by decide, by decide⟩) ?_
                  refine go_toq PM58 (k := 4) (pc' := 75) (L' := [some (.inr (.inr (some 43))), some (.inl p1), some (.inl p2), some (.inl p3), none, some (.inl (l75_5 + 1)), some (.inl 0)]) (st' := []) (w' := (SH, (u2 dt90 55 (((l75_5 * 3) + p2).toNat) 0))) rfl ?_
                  exact GO.le (ih_loop94 (l75_5 + 1) (u2 dt90 55 (((l75_5 * 3) + p2).toNat) 0) hI126 hF127 (by first | exact bndp i93 (by decide) (by decide) | exact bnde i93 c108 (by decide) (by decide) | fail) (by omega)) ⟨.inl rfl, .inl rfl, .inl rfl, .inl rfl, .inl rfl, .inl rfl, .inr ⟨rfl, trivial⟩, trivial⟩
        exact GO.le (loop94 _ 0 (u2 (u2 (u2 (u2 j8_d 48 (p2).toNat (j8_d 47 (p2).toNat)) 47 (p2).toNat p3) 50 (p2).toNat (wr ((j8_d 50 (p2).toNat) + 1))) 54 (((p1 * 3) + p2).toNat) p3) hI18 hF19 ⟨by decide, by decide⟩ (Nat.lt_succ_self _)) ⟨.inl rfl, .inl rfl, .inl rfl, .inl rfl, .inl rfl, .inl rfl, .inl rfl, trivial⟩
      refine go_ifq PM58 (k := 1) (p1 := 32) (p2 := 25) (L' := [some (.inr (.inr (some 43))), some (.inl p1), some (.inl p2), some (.inl p3), some (.inl p4), none, none]) (st' := []) (w' := (SH, dt)) rfl (c_ne (a := dt 47 (p2).toNat) (b := (-1)) (by first | exact bnd r4 (by decide) (by decide) | exact ⟨by fail, by fail⟩) ⟨by decide, by decide⟩) (fun c128 => ?_) (fun c128 => ?_)
      · skip
        replace c128 := hid c128
        exact GO.le (j8 dt hI hF) ⟨.inl rfl, .inl rfl, .inl rfl, .inl rfl, .inr ⟨rfl, trivial⟩, .inl rfl, .inl rfl, trivial⟩
      · skip
        refine go_toq PM58 (k := 4) (pc' := 31) (L' := [some (.inr (.inr (some 43))), some (.inl p1), some (.inl p2), some (.inl p3), some (.inl p4), none, none]) (st' := [.inl p3, .inl p2, .inr (.inr (some 49))]) (w' := (SH, dt)) rfl ?_
        have hI129 : InvC (u2 dt 49 (p2).toNat p3) := InvC_u2 hI (lo := -2147483648) (hi := 2147483647) rfl rfl rfl (by first | exact bnd1 h_p3 (by decide) | fail) (by first | exact bnd2 h_p3 (by decide) | fail)
        have hF130 : Fr [47, 48, 49, 50, 52, 53, 54, 55, 56] dt (u2 dt 49 (p2).toNat p3) := Fr_u2 hF (by decide)
        refine go_smpq PM58 (L' := [some (.inr (.inr (some 43))), some (.inl p1), some (.inl p2), some (.inl p3), some (.inl p4), none, none]) (st' := []) (w' := (SH, (u2 dt 49 (p2).toNat p3))) rfl rfl (s_iast (n := 3) rfl (by first | exact bndx h_p2 (by decide) (by decide) | exact ⟨by fail, by fail⟩) (by first | exact bnd h_p3 (by decide) (by decide) | exact ⟨by fail, by fail⟩)) ?_
        exact GO.le (j8 (u2 dt 49 (p2).toNat p3) hI129 hF130) ⟨.inl rfl, .inl rfl, .inl rfl, .inl rfl, .inr ⟨rfl, trivial⟩, .inl rfl, .inl rfl, trivial⟩
    · skip
      refine go_retq PM58 (k := 0) (r := none) (w1 := (SH, dt)) rfl ?_
      exact ⟨dt, rfl, hI, hF, ⟨rfl, trivial⟩⟩
theorem sp_X4_inform_43 (L : Nat) (xs : Nat → Int32) (sio : Option Nat) (d : Nat) (dt : Nat → Nat → Int) (hI : InvC dt)  (p1 : Int) (h_p1 : 0 ≤ p1 ∧ p1 ≤ 3) (p2 : Int) (h_p2 : 0 ≤ p2 ∧ p2 ≤ 3) (p3 : Int) (h_p3 : 0 ≤ p3 ∧ p3 ≤ 2) (p4 : Int) (h_p4 : 0 ≤ p4 ∧ p4 ≤ 3)  : GO (am_XX L xs sio) (d) 60 0 [some (.inr (.inr (some 43))), some (.inl p1), some (.inl p2), some (.inl p3), some (.inl p4), none] [] (SH, dt) (fun r w2 => ∃ dt2 : Nat → Nat → Int, w2 = (SH, dt2) ∧ InvC dt2 ∧ Fr [52, 56] dt dt2 ∧ ((r = none ∧ True))) := by
  have hF : Fr [52, 56] dt dt := Fr_refl
  refine go_ifq PM60 (k := 2) (p1 := 23) (p2 := 5) (L' := [some (.inr (.inr (some 43))), some (.inl p1), some (.inl p2), some (.inl p3), some (.inl p4), none]) (st' := []) (w' := (SH, dt)) rfl (c_eq (a := p2) (b := p1) (by first | exact bnd h_p2 (by decide) (by decide) | exact ⟨by fail, by fail⟩) (by first | exact bnd h_p1 (by decide) (by decide) | exact ⟨by fail, by fail⟩)) (fun c1 => ?_) (fun c1 => ?_)
  · skip
    refine go_retq PM60 (k := 0) (r := none) (w1 := (SH, dt)) rfl ?_
    exact ⟨dt, rfl, hI, hF, ⟨rfl, trivial⟩⟩
  · skip
    replace c1 := hid c1
    refine go_toq PM60 (k := 3) (pc' := 10) (L' := [some (.inr (.inr (some 43))), some (.inl p1), some (.inl p2), some (.inl p3), some (.inl p4), none]) (st' := [.inl p1, .inr (.inr (some 44))]) (w' := (SH, dt)) rfl ?_
    have r2 : (-2147483648) ≤ dt 44 (p1).toNat ∧ dt 44 (p1).toNat ≤ 2147483647 := InvC_get hI 44 (p1).toNat rfl rfl
    refine go_smpq PM60 (L' := [some (.inr (.inr (some 43))), some (.inl p1), some (.inl p2), some (.inl p3), some (.inl p4), none]) (st' := [.inl (dt 44 (p1).toNat)]) (w' := (SH, dt)) rfl rfl (s_iald (n := 4) (f := dt 44) rfl (by first | exact bndx h_p1 (by decide) (by decide) | exact ⟨by fail, by fail⟩)) ?_
    refine go_ifq PM60 (k := 0) (p1 := 23) (p2 := 14) (L' := [some (.inr (.inr (some 43))), some (.inl p1), some (.inl p2), some (.inl p3), some (.inl p4), none]) (st' := []) (w' := (SH, dt)) rfl (z_eq (a := dt 44 (p1).toNat) (by first | exact bnd r2 (by decide) (by decide) | exact ⟨by fail, by fail⟩)) (fun c3 => ?_) (fun c3 => ?_)
    · skip
      refine go_retq PM60 (k := 0) (r := none) (w1 := (SH, dt)) rfl ?_
      exact ⟨dt, rfl, hI, hF, ⟨rfl, trivial⟩⟩
    · skip
      replace c3 := hid c3
      refine go_toq PM60 (k := 3) (pc' := 19) (L' := [some (.inr (.inr (some 43))), some (.inl p1), some (.inl p2), some (.inl p3), some (.inl p4), none]) (st' := [.inl p2, .inr (.inr (some 44))]) (w' := (SH, dt)) rfl ?_
      have r4 : (-2147483648) ≤ dt 44 (p2).toNat ∧ dt 44 (p2).toNat ≤ 2147483647 := InvC_get hI 44 (p2).toNat rfl rfl
      refine go_smpq PM60 (L' := [some (.inr (.inr (some 43))), some (.inl p1), some (.inl p2), some (.inl p3), some (.inl p4), none]) (st' := [.inl (dt 44 (p2).toNat)]) (w' := (SH, dt)) rfl rfl (s_iald (n := 4) (f := dt 44) rfl (by first | exact bndx h_p2 (by decide) (by decide) | exact ⟨by fail, by fail⟩)) ?_
      refine go_ifq PM60 (k := 0) (p1 := 24) (p2 := 23) (L' := [some (.inr (.inr (some 43))), some (.inl p1), some (.inl p2), some (.inl p3), some (.inl p4), none]) (st' := []) (w' := (SH, dt)) rfl (z_ne (a := dt 44 (p2).toNat) (by first | exact bnd r4 (by decide) (by decide) | exact ⟨by fail, by fail⟩)) (fun c5 => ?_) (fun c5 => ?_)
      · skip
        replace c5 := hid c5
        refine go_toq PM60 (k := 8) (pc' := 35) (L' := [some (.inr (.inr (some 43))), some (.inl p1), some (.inl p2), some (.inl p3), some (.inl p4), none]) (st' := [.inl p4, .inl ((p2 * 3) + p3), .inr (.inr (some 52))]) (w' := (SH, dt)) rfl ?_
        have hI6 : InvC (u2 dt 52 (((p2 * 3) + p3).toNat) p4) := InvC_u2 hI (lo := -2147483648) (hi := 2147483647) rfl rfl rfl (by first | exact bnd1 h_p4 (by decide) | fail) (by first | exact bnd2 h_p4 (by decide) | fail)
        have hF7 : Fr [52, 56] dt (u2 dt 52 (((p2 * 3) + p3).toNat) p4) := Fr_u2 hF (by decide)
        refine go_smpq PM60 (L' := [some (.inr (.inr (some 43))), some (.inl p1), some (.inl p2), some (.inl p3), some (.inl p4), none]) (st' := []) (w' := (SH, (u2 dt 52 (((p2 * 3) + p3).toNat) p4))) rfl rfl (s_iast (n := 12) rfl ⟨by omega, by omega⟩ (by first | exact bnd h_p4 (by decide) (by decide) | exact ⟨by fail, by fail⟩)) ?_
        refine go_toq PM60 (k := 12) (pc' := 51) (L' := [some (.inr (.inr (some 43))), some (.inl p1), some (.inl p2), some (.inl p3), some (.inl p4), none]) (st' := [.inl p4, .inl ((((p2 * 4) + p1) * 3) + p3), .inr (.inr (some 56))]) (w' := (SH, (u2 dt 52 (((p2 * 3) + p3).toNat) p4))) rfl ?_
        have hI8 : InvC (u2 (u2 dt 52 (((p2 * 3) + p3).toNat) p4) 56 (((((p2 * 4) + p1) * 3) + p3).toNat) p4) := InvC_u2 hI6 (lo := -2147483648) (hi := 2147483647) rfl rfl rfl (by first | exact bnd1 h_p4 (by decide) | fail) (by first | exact bnd2 h_p4 (by decide) | fail)
        have hF9 : Fr [52, 56] dt (u2 (u2 dt 52 (((p2 * 3) + p3).toNat) p4) 56 (((((p2 * 4) + p1) * 3) + p3).toNat) p4) := Fr_u2 hF7 (by decide)
        refine go_smpq PM60 (L' := [some (.inr (.inr (some 43))), some (.inl p1), some (.inl p2), some (.inl p3), some (.inl p4), none]) (st' := []) (w' := (SH, (u2 (u2 dt 52 (((p2 * 3) + p3).toNat) p4) 56 (((((p2 * 4) + p1) * 3) + p3).toNat) p4))) rfl rfl (s_iast (n := 48) rfl ⟨by omega, by omega⟩ (by first | exact bnd h_p4 (by decide) (by decide) | exact ⟨by fail, by fail⟩)) ?_
        refine go_toq PM60 (k := 2) (pc' := 55) (L' := [some (.inr (.inr (some 43))), some (.inl p1), some (.inl p2), some (.inl p3), some (.inl p4), some (.inl 0)]) (st' := []) (w' := (SH, (u2 (u2 dt 52 (((p2 * 3) + p3).toNat) p4) 56 (((((p2 * 4) + p1) * 3) + p3).toNat) p4))) rfl ?_
        have loop54 : ∀ (k_ : Nat) (l55_5 : Int) (dt50 : Nat → Nat → Int) (hI51 : InvC dt50) (hF52 : Fr [52, 56] dt dt50) (i53 : 0 ≤ l55_5 ∧ l55_5 ≤ 4), (5 - l55_5).toNat < k_ → GO (am_XX L xs sio) (d) 60 55 [some (.inr (.inr (some 43))), none, some (.inl p2), some (.inl p3), some (.inl p4), some (.inl l55_5)] [] (SH, dt50) (fun r w2 => ∃ dt2 : Nat → Nat → Int, w2 = (SH, dt2) ∧ InvC dt2 ∧ Fr [52, 56] dt dt2 ∧ ((r = none ∧ True))) := by
          intro k_
          induction k_ with
          | zero => intro l55_5 dt50 hI51 hF52 i53 hm; exact absurd hm (Nat.not_lt_zero _)
          | succ k_ ih_loop54 =>
            intro l55_5 dt50 hI51 hF52 i53 hm
            refine go_ifq PM60 (k := 2) (p1 := 101) (p2 := 61) (L' := [some (.inr (.inr (some 43))), none, some (.inl p2), some (.inl p3), some (.inl p4), some (.inl l55_5)]) (st' := []) (w' := (SH, dt50)) rfl (c_ge (a := l55_5) (b := 4) (by first | exact bnd i53 (by decide) (by decide) | exact ⟨by fail, by fail⟩) ⟨by decide, by decide⟩) (fun c62 => ?_) (fun c62 => ?_)
            · skip
              refine go_retq PM60 (k := 0) (r := none) (w1 := (SH, dt50)) rfl ?_
              exact ⟨dt50, rfl, hI51, hF52, ⟨rfl, trivial⟩⟩
            · skip
              have j68 : ∀ (j68_d : Nat → Nat → Int) (j68_hI : InvC j68_d) (j68_hF : Fr [52, 56] dt j68_d), GO (am_XX L xs sio) (d) 60 95 [some (.inr (.inr (some 43))), none, some (.inl p2), some (.inl p3), some (.inl p4), some (.inl l55_5)] [] (SH, j68_d) (fun r w2 => ∃ dt2 : Nat → Nat → Int, w2 = (SH, dt2) ∧ InvC dt2 ∧ Fr [52, 56] dt dt2 ∧ ((r = none ∧ True))) := by
                intro j68_d j68_hI j68_hF
                refine go_toq PM60 (k := 2) (pc' := 55) (L' := [some (.inr (.inr (some 43))), none, some (.inl p2), some (.inl p3), some (.inl p4), some (.inl (l55_5 + 1))]) (st' := []) (w' := (SH, j68_d)) rfl ?_
                exact GO.le (ih_loop54 (l55_5 + 1) j68_d j68_hI j68_hF (by first | exact bndp i53 (by decide) (by decide) | exact bnde i53 c62 (by decide) (by decide) | fail) (by omega)) ⟨.inl rfl, .inl rfl, .inl rfl, .inl rfl, .inl rfl, .inl rfl, trivial⟩
              refine go_ifq PM60 (k := 2) (p1 := 95) (p2 := 67) (L' := [some (.inr (.inr (some 43))), none, some (.inl p2), some (.inl p3), some (.inl p4), some (.inl l55_5)]) (st' := []) (w' := (SH, dt50)) rfl (c_eq (a := l55_5) (b := p2) (by first | exact bnd i53 (by decide) (by decide) | exact bndd i53 c62 (by decide) (by decide) | exact ⟨by fail, by fail⟩) (by first | exact bnd h_p2 (by decide) (by decide) | exact ⟨by fail, by fail⟩)) (fun c69 => ?_) (fun c69 => ?_)
              · skip
                exact GO.le (j68 dt50 hI51 hF52) ⟨.inl rfl, .inl rfl, .inl rfl, .inl rfl, .inl rfl, .inl rfl, trivial⟩
              · skip
                replace c69 := hid c69
                refine go_toq PM60 (k := 3) (pc' := 73) (L' := [some (.inr (.inr (some 43))), none, some (.inl p2), some (.inl p3), some (.inl p4), some (.inl l55_5)]) (st' := [.inl l55_5, .inr (.inr (some 44))]) (w' := (SH, dt50)) rfl ?_
                have r70 : (-2147483648) ≤ dt50 44 (l55_5).toNat ∧ dt50 44 (l55_5).toNat ≤ 2147483647 := InvC_get hI51 44 (l55_5).toNat rfl rfl
                refine go_smpq PM60 (L' := [some (.inr (.inr (some 43))), none, some (.inl p2), some (.inl p3), some (.inl p4), some (.inl l55_5)]) (st' := [.inl (dt50 44 (l55_5).toNat)]) (w' := (SH, dt50)) rfl rfl (s_iald (n := 4) (f := dt50 44) rfl (by first | exact bndc i53 c62 (by decide) (by decide) | exact bndx i53 (by decide) (by decide) | exact ⟨by fail, by fail⟩)) ?_
                refine go_ifq PM60 (k := 1) (p1 := 95) (p2 := 78) (L' := [some (.inr (.inr (some 43))), none, some (.inl p2), some (.inl p3), some (.inl p4), some (.inl l55_5)]) (st' := []) (w' := (SH, dt50)) rfl (c_ne (a := dt50 44 (l55_5).toNat) (b := 1) (by first | exact bnd r70 (by decide) (by decide) | exact ⟨by fail, by fail⟩) ⟨by decide, by decide⟩) (fun c71 => ?_) (fun c71 => ?_)
                · skip
                  replace c71 := hid c71
                  exact GO.le (j68 dt50 hI51 hF52) ⟨.inl rfl, .inl rfl, .inl rfl, .inl rfl, .inl rfl, .inl rfl, trivial⟩
                · skip
                  refine go_toq PM60 (k := 12) (pc' := 94) (L' := [some (.inr (.inr (some 43))), none, some (.inl p2), some (.inl p3), some (.inl p4), some (.inl l55_5)]) (st' := [.inl p4, .inl ((((l55_5 * 4) + p2) * 3) + p3), .inr (.inr (some 56))]) (w' := (SH, dt50)) rfl ?_
                  have hI72 : InvC (u2 dt50 56 (((((l55_5 * 4) + p2) * 3) + p3).toNat) p4) := InvC_u2 hI51 (lo := -2147483648) (hi := 2147483647) rfl rfl rfl (by first | exact bnd1 h_p4 (by decide) | fail) (by first | exact bnd2 h_p4 (by decide) | fail)
                  have hF73 : Fr [52, 56] dt (u2 dt50 56 (((((l55_5 * 4) + p2) * 3) + p3).toNat) p4) := Fr_u2 hF52 (by decide)
                  refine go_smpq PM60 (L' := [some (.inr (.inr (some 43))), none, some (.inl p2), some (.inl p3), some (.inl p4), some (.inl l55_5)]) (st' := []) (w' := (SH, (u2 dt50 56 (((((l55_5 * 4) + p2) * 3) + p3).toNat) p4))) rfl rfl (s_iast (n := 48) rfl ⟨by omega, by omega⟩ (by first | exact bnd h_p4 (by decide) (by decide) | exact ⟨by fail, by fail⟩)) ?_
                  exact GO.le (j68 (u2 dt50 56 (((((l55_5 * 4) + p2) * 3) + p3).toNat) p4) hI72 hF73) ⟨.inl rfl, .inl rfl, .inl rfl, .inl rfl, .inl rfl, .inl rfl, trivial⟩
        exact GO.le (loop54 _ 0 (u2 (u2 dt 52 (((p2 * 3) + p3).toNat) p4) 56 (((((p2 * 4) + p1) * 3) + p3).toNat) p4) hI8 hF9 ⟨by decide, by decide⟩ (Nat.lt_succ_self _)) ⟨.inl rfl, .inr ⟨rfl, trivial⟩, .inl rfl, .inl rfl, .inl rfl, .inl rfl, trivial⟩
      · skip
        refine go_retq PM60 (k := 0) (r := none) (w1 := (SH, dt)) rfl ?_
        exact ⟨dt, rfl, hI, hF, ⟨rfl, trivial⟩⟩
theorem sp_X4_watchLift_43 (L : Nat) (xs : Nat → Int32) (sio : Option Nat) (d : Nat) (dt : Nat → Nat → Int) (hI : InvC dt)  (p1 : Int) (h_p1 : 0 ≤ p1 ∧ p1 ≤ 3) (p2 : Int) (h_p2 : 0 ≤ p2 ∧ p2 ≤ 3) (p3 : Int) (h_p3 : 0 ≤ p3 ∧ p3 ≤ 2) (p4 : Int) (h_p4 : 0 ≤ p4 ∧ p4 ≤ 3)  : GO (am_XX L xs sio) (d) 62 0 [some (.inr (.inr (some 43))), some (.inl p1), some (.inl p2), some (.inl p3), some (.inl p4), none] [] (SH, dt) (fun r w2 => ∃ dt2 : Nat → Nat → Int, w2 = (SH, dt2) ∧ InvC dt2 ∧ Fr [56] dt dt2 ∧ ((r = none ∧ True))) := by
  have hF : Fr [56] dt dt := Fr_refl
  refine go_toq PM62 (k := 17) (pc' := 20) (L' := [some (.inr (.inr (some 43))), some (.inl p1), some (.inl p2), some (.inl p3), some (.inl p4), some (.inl ((((p1 * 4) + p2) * 3) + p3))]) (st' := [.inl ((p1 * 3) + p3), .inr (.inr (some 52))]) (w' := (SH, dt)) rfl ?_
  have r1 : (-2147483648) ≤ dt 52 (((p1 * 3) + p3).toNat) ∧ dt 52 (((p1 * 3) + p3).toNat) ≤ 2147483647 := InvC_get hI 52 (((p1 * 3) + p3).toNat) rfl rfl
  refine go_smpq PM62 (L' := [some (.inr (.inr (some 43))), some (.inl p1), some (.inl p2), some (.inl p3), some (.inl p4), some (.inl ((((p1 * 4) + p2) * 3) + p3))]) (st' := [.inl (dt 52 (((p1 * 3) + p3).toNat))]) (w' := (SH, dt)) rfl rfl (s_iald (n := 12) (f := dt 52) rfl ⟨by omega, by omega⟩) ?_
  have j9 : ∀ (j9_d : Nat → Nat → Int) (j9_hI : InvC j9_d) (j9_hF : Fr [56] dt j9_d), GO (am_XX L xs sio) (d) 62 58 [some (.inr (.inr (some 43))), none, none, none, none, none] [] (SH, j9_d) (fun r w2 => ∃ dt2 : Nat → Nat → Int, w2 = (SH, dt2) ∧ InvC dt2 ∧ Fr [56] dt dt2 ∧ ((r = none ∧ True))) := by
    intro j9_d j9_hI j9_hF
    refine go_retq PM62 (k := 0) (r := none) (w1 := (SH, j9_d)) rfl ?_
    exact ⟨j9_d, rfl, j9_hI, j9_hF, ⟨rfl, trivial⟩⟩
  refine go_ifq PM62 (k := 1) (p1 := 38) (p2 := 26) (L' := [some (.inr (.inr (some 43))), some (.inl p1), some (.inl p2), some (.inl p3), some (.inl p4), some (.inl ((((p1 * 4) + p2) * 3) + p3))]) (st' := []) (w' := (SH, dt)) rfl (c_ne (a := dt 52 (((p1 * 3) + p3).toNat)) (b := p4) (by first | exact bnd r1 (by decide) (by decide) | exact ⟨by fail, by fail⟩) (by first | exact bnd h_p4 (by decide) (by decide) | exact ⟨by fail, by fail⟩)) (fun c10 => ?_) (fun c10 => ?_)
  · skip
    replace c10 := hid c10
    refine go_toq PM62 (k := 3) (pc' := 44) (L' := [some (.inr (.inr (some 43))), some (.inl p1), some (.inl p2), some (.inl p3), some (.inl p4), some (.inl ((((p1 * 4) + p2) * 3) + p3))]) (st' := [.inl ((((p1 * 4) + p2) * 3) + p3), .inr (.inr (some 56))]) (w' := (SH, dt)) rfl ?_
    have r11 : (-2147483648) ≤ dt 56 (((((p1 * 4) + p2) * 3) + p3).toNat) ∧ dt 56 (((((p1 * 4) + p2) * 3) + p3).toNat) ≤ 2147483647 := InvC_get hI 56 (((((p1 * 4) + p2) * 3) + p3).toNat) rfl rfl
    refine go_smpq PM62 (L' := [some (.inr (.inr (some 43))), some (.inl p1), some (.inl p2), some (.inl p3), some (.inl p4), some (.inl ((((p1 * 4) + p2) * 3) + p3))]) (st' := [.inl (dt 56 (((((p1 * 4) + p2) * 3) + p3).toNat))]) (w' := (SH, dt)) rfl rfl (s_iald (n := 48) (f := dt 56) rfl ⟨by omega, by omega⟩) ?_
    refine go_ifq PM62 (k := 1) (p1 := 58) (p2 := 50) (L' := [some (.inr (.inr (some 43))), some (.inl p1), some (.inl p2), some (.inl p3), some (.inl p4), some (.inl ((((p1 * 4) + p2) * 3) + p3))]) (st' := []) (w' := (SH, dt)) rfl (c_ne (a := dt 56 (((((p1 * 4) + p2) * 3) + p3).toNat)) (b := p4) (by first | exact bnd r11 (by decide) (by decide) | exact ⟨by fail, by fail⟩) (by first | exact bnd h_p4 (by decide) (by decide) | exact ⟨by fail, by fail⟩)) (fun c12 => ?_) (fun c12 => ?_)
    · skip
      replace c12 := hid c12
      exact GO.le (j9 dt hI hF) ⟨.inl rfl, .inr ⟨rfl, trivial⟩, .inr ⟨rfl, trivial⟩, .inr ⟨rfl, trivial⟩, .inr ⟨rfl, trivial⟩, .inr ⟨rfl, trivial⟩, trivial⟩
    · skip
      refine go_toq PM62 (k := 4) (pc' := 57) (L' := [some (.inr (.inr (some 43))), some (.inl p1), some (.inl p2), some (.inl p3), some (.inl p4), some (.inl ((((p1 * 4) + p2) * 3) + p3))]) (st' := [.inl (-1), .inl ((((p1 * 4) + p2) * 3) + p3), .inr (.inr (some 56))]) (w' := (SH, dt)) rfl ?_
      have hI13 : InvC (u2 dt 56 (((((p1 * 4) + p2) * 3) + p3).toNat) (-1)) := InvC_u2 hI (lo := -2147483648) (hi := 2147483647) rfl rfl rfl (by decide) (by decide)
      have hF14 : Fr [56] dt (u2 dt 56 (((((p1 * 4) + p2) * 3) + p3).toNat) (-1)) := Fr_u2 hF (by decide)
      refine go_smpq PM62 (L' := [some (.inr (.inr (some 43))), some (.inl p1), some (.inl p2), some (.inl p3), some (.inl p4), some (.inl ((((p1 * 4) + p2) * 3) + p3))]) (st' := []) (w' := (SH, (u2 dt 56 (((((p1 * 4) + p2) * 3) + p3).toNat) (-1)))) rfl rfl (s_iast (n := 48) rfl ⟨by omega, by omega⟩ ⟨by decide, by decide⟩) ?_
      exact GO.le (j9 (u2 dt 56 (((((p1 * 4) + p2) * 3) + p3).toNat) (-1)) hI13 hF14) ⟨.inl rfl, .inr ⟨rfl, trivial⟩, .inr ⟨rfl, trivial⟩, .inr ⟨rfl, trivial⟩, .inr ⟨rfl, trivial⟩, .inr ⟨rfl, trivial⟩, trivial⟩
  · skip
    refine go_toq PM62 (k := 4) (pc' := 34) (L' := [some (.inr (.inr (some 43))), some (.inl p1), some (.inl p2), some (.inl p3), some (.inl p4), some (.inl ((((p1 * 4) + p2) * 3) + p3))]) (st' := [.inl p4, .inl ((((p1 * 4) + p2) * 3) + p3), .inr (.inr (some 56))]) (w' := (SH, dt)) rfl ?_
    have hI15 : InvC (u2 dt 56 (((((p1 * 4) + p2) * 3) + p3).toNat) p4) := InvC_u2 hI (lo := -2147483648) (hi := 2147483647) rfl rfl rfl (by first | exact bnd1 h_p4 (by decide) | fail) (by first | exact bnd2 h_p4 (by decide) | fail)
    have hF16 : Fr [56] dt (u2 dt 56 (((((p1 * 4) + p2) * 3) + p3).toNat) p4) := Fr_u2 hF (by decide)
    refine go_smpq PM62 (L' := [some (.inr (.inr (some 43))), some (.inl p1), some (.inl p2), some (.inl p3), some (.inl p4), some (.inl ((((p1 * 4) + p2) * 3) + p3))]) (st' := []) (w' := (SH, (u2 dt 56 (((((p1 * 4) + p2) * 3) + p3).toNat) p4))) rfl rfl (s_iast (n := 48) rfl ⟨by omega, by omega⟩ (by first | exact bnd h_p4 (by decide) (by decide) | exact ⟨by fail, by fail⟩)) ?_
    refine go_toq PM62 (k := 1) (pc' := 58) (L' := [some (.inr (.inr (some 43))), some (.inl p1), some (.inl p2), some (.inl p3), some (.inl p4), some (.inl ((((p1 * 4) + p2) * 3) + p3))]) (st' := []) (w' := (SH, (u2 dt 56 (((((p1 * 4) + p2) * 3) + p3).toNat) p4))) rfl ?_
    exact GO.le (j9 (u2 dt 56 (((((p1 * 4) + p2) * 3) + p3).toNat) p4) hI15 hF16) ⟨.inl rfl, .inr ⟨rfl, trivial⟩, .inr ⟨rfl, trivial⟩, .inr ⟨rfl, trivial⟩, .inr ⟨rfl, trivial⟩, .inr ⟨rfl, trivial⟩, trivial⟩
theorem sp_X4_lift_43 (L : Nat) (xs : Nat → Int32) (sio : Option Nat) (d : Nat) (dt : Nat → Nat → Int) (hI : InvC dt)  (p1 : Int) (h_p1 : 0 ≤ p1 ∧ p1 ≤ 3) (p2 : Int) (h_p2 : 0 ≤ p2 ∧ p2 ≤ 3)  : GO (am_XX L xs sio) (d + 1) 61 0 [some (.inr (.inr (some 43))), some (.inl p1), some (.inl p2), none, none, none] [] (SH, dt) (fun r w2 => ∃ dt2 : Nat → Nat → Int, w2 = (SH, dt2) ∧ InvC dt2 ∧ Fr [52, 53, 55, 56] dt dt2 ∧ ((r = none ∧ True))) := by
  have hF : Fr [52, 53, 55, 56] dt dt := Fr_refl
  refine go_toq PM61 (k := 2) (pc' := 2) (L' := [some (.inr (.inr (some 43))), some (.inl p1), some (.inl p2), none, none, none]) (st' := [.inl p1, .inr (.inr (some 43))]) (w' := (SH, dt)) rfl ?_
  refine go_callq PM61 PM54 (Q' := _) rfl rfl rfl rfl (sp_X4_canSee_43 L xs sio (d + 0) dt hI  p1 (by first | exact h_p1 | exact bnd h_p1 (by decide) (by decide) | exact ⟨by fail, by fail⟩) ) ?_
  rintro _ _ ⟨rfl, h1⟩
  refine ⟨rfl, ?_⟩
  rcases h1 with ⟨rfl, h1⟩ | ⟨rfl, h1⟩
  · skip
    refine go_toq PM61 (k := 3) (pc' := 11) (L' := [some (.inr (.inr (some 43))), some (.inl p1), some (.inl p2), some (.inl 0), none, none]) (st' := []) (w' := (SH, dt)) rfl ?_
    have loop310 : ∀ (k_ : Nat) (l11_3 : Int) (dt306 : Nat → Nat → Int) (hI307 : InvC dt306) (hF308 : Fr [52, 53, 55, 56] dt dt306) (i309 : 0 ≤ l11_3 ∧ l11_3 ≤ 3), (4 - l11_3).toNat < k_ → GO (am_XX L xs sio) (d + 1) 61 11 [some (.inr (.inr (some 43))), some (.inl p1), some (.inl p2), some (.inl l11_3), none, none] [] (SH, dt306) (fun r w2 => ∃ dt2 : Nat → Nat → Int, w2 = (SH, dt2) ∧ InvC dt2 ∧ Fr [52, 53, 55, 56] dt dt2 ∧ ((r = none ∧ True))) := by
      intro k_
      induction k_ with
      | zero => intro l11_3 dt306 hI307 hF308 i309 hm; exact absurd hm (Nat.not_lt_zero _)
      | succ k_ ih_loop310 =>
        intro l11_3 dt306 hI307 hF308 i309 hm
        refine go_ifq PM61 (k := 2) (p1 := 124) (p2 := 16) (L' := [some (.inr (.inr (some 43))), some (.inl p1), some (.inl p2), some (.inl l11_3), none, none]) (st' := []) (w' := (SH, dt306)) rfl (c_ge (a := l11_3) (b := 3) (by first | exact bnd i309 (by decide) (by decide) | exact ⟨by fail, by fail⟩) ⟨by decide, by decide⟩) (fun c386 => ?_) (fun c386 => ?_)
        · skip
          refine go_retq PM61 (k := 0) (r := none) (w1 := (SH, dt306)) rfl ?_
          exact ⟨dt306, rfl, hI307, hF308, ⟨rfl, trivial⟩⟩
        · skip
          refine go_toq PM61 (k := 9) (pc' := 28) (L' := [some (.inr (.inr (some 43))), some (.inl p1), some (.inl p2), some (.inl l11_3), some (.inl ((p1 * 3) + l11_3)), none]) (st' := [.inl l11_3, .inr (.inr (some 47))]) (w' := (SH, dt306)) rfl ?_
          have r387 : (-2147483648) ≤ dt306 47 (l11_3).toNat ∧ dt306 47 (l11_3).toNat ≤ 2147483647 := InvC_get hI307 47 (l11_3).toNat rfl rfl
          refine go_smpq PM61 (L' := [some (.inr (.inr (some 43))), some (.inl p1), some (.inl p2), some (.inl l11_3), some (.inl ((p1 * 3) + l11_3)), none]) (st' := [.inl (dt306 47 (l11_3).toNat)]) (w' := (SH, dt306)) rfl rfl (s_iald (n := 3) (f := dt306 47) rfl (by first | exact bndc i309 c386 (by decide) (by decide) | exact bndx i309 (by decide) (by decide) | exact ⟨by fail, by fail⟩)) ?_
          have j399 : ∀ (j399_d : Nat → Nat → Int) (j399_hI : InvC j399_d) (j399_hF : Fr [52, 53, 55, 56] dt j399_d), GO (am_XX L xs sio) (d + 1) 61 79 [some (.inr (.inr (some 43))), some (.inl p1), some (.inl p2), some (.inl l11_3), none, none] [] (SH, j399_d) (fun r w2 => ∃ dt2 : Nat → Nat → Int, w2 = (SH, dt2) ∧ InvC dt2 ∧ Fr [52, 53, 55, 56] dt dt2 ∧ ((r = none ∧ True))) := by
            intro j399_d j399_hI j399_hF
            refine go_toq PM61 (k := 2) (pc' := 82) (L' := [some (.inr (.inr (some 43))), some (.inl p1), some (.inl p2), some (.inl l11_3), none, some (.inl 0)]) (st' := []) (w' := (SH, j399_d)) rfl ?_
            have loop454 : ∀ (k_ : Nat) (l82_5 : Int) (dt450 : Nat → Nat → Int) (hI451 : InvC dt450) (hF452 : Fr [52, 53, 55, 56] dt dt450) (i453 : 0 ≤ l82_5 ∧ l82_5 ≤ 4), (5 - l82_5).toNat < k_ → GO (am_XX L xs sio) (d + 1) 61 82 [some (.inr (.inr (some 43))), some (.inl p1), some (.inl p2), some (.inl l11_3), none, some (.inl l82_5)] [] (SH, dt450) (fun r w2 => ∃ dt2 : Nat → Nat → Int, w2 = (SH, dt2) ∧ InvC dt2 ∧ Fr [52, 53, 55, 56] dt dt2 ∧ ((r = none ∧ True))) := by
              intro k_
              induction k_ with
              | zero => intro l82_5 dt450 hI451 hF452 i453 hm; exact absurd hm (Nat.not_lt_zero _)
              | succ k_ ih_loop454 =>
                intro l82_5 dt450 hI451 hF452 i453 hm
                refine go_ifq PM61 (k := 2) (p1 := 118) (p2 := 88) (L' := [some (.inr (.inr (some 43))), some (.inl p1), some (.inl p2), some (.inl l11_3), none, some (.inl l82_5)]) (st' := []) (w' := (SH, dt450)) rfl (c_ge (a := l82_5) (b := 4) (by first | exact bnd i453 (by decide) (by decide) | exact ⟨by fail, by fail⟩) ⟨by decide, by decide⟩) (fun c464 => ?_) (fun c464 => ?_)
                · skip
                  refine go_toq PM61 (k := 2) (pc' := 11) (L' := [some (.inr (.inr (some 43))), some (.inl p1), some (.inl p2), some (.inl (l11_3 + 1)), none, some (.inl l82_5)]) (st' := []) (w' := (SH, dt450)) rfl ?_
                  exact GO.le (ih_loop310 (l11_3 + 1) dt450 hI451 hF452 (by first | exact bndp i309 (by decide) (by decide) | exact bnde i309 c386 (by decide) (by decide) | fail) (by omega)) ⟨.inl rfl, .inl rfl, .inl rfl, .inl rfl, .inl rfl, .inr ⟨rfl, trivial⟩, trivial⟩
                · skip
                  have j472 : ∀ (j472_d : Nat → Nat → Int) (j472_hI : InvC j472_d) (j472_hF : Fr [52, 53, 55, 56] dt j472_d), GO (am_XX L xs sio) (d + 1) 61 112 [some (.inr (.inr (some 43))), some (.inl p1), some (.inl p2), some (.inl l11_3), none, some (.inl l82_5)] [] (SH, j472_d) (fun r w2 => ∃ dt2 : Nat → Nat → Int, w2 = (SH, dt2) ∧ InvC dt2 ∧ Fr [52, 53, 55, 56] dt dt2 ∧ ((r = none ∧ True))) := by
                    intro j472_d j472_hI j472_hF
                    refine go_toq PM61 (k := 2) (pc' := 82) (L' := [some (.inr (.inr (some 43))), some (.inl p1), some (.inl p2), some (.inl l11_3), none, some (.inl (l82_5 + 1))]) (st' := []) (w' := (SH, j472_d)) rfl ?_
                    exact GO.le (ih_loop454 (l82_5 + 1) j472_d j472_hI j472_hF (by first | exact bndp i453 (by decide) (by decide) | exact bnde i453 c464 (by decide) (by decide) | fail) (by omega)) ⟨.inl rfl, .inl rfl, .inl rfl, .inl rfl, .inl rfl, .inl rfl, trivial⟩
                  refine go_ifq PM61 (k := 2) (p1 := 112) (p2 := 94) (L' := [some (.inr (.inr (some 43))), some (.inl p1), some (.inl p2), some (.inl l11_3), none, some (.inl l82_5)]) (st' := []) (w' := (SH, dt450)) rfl (c_eq (a := l82_5) (b := p1) (by first | exact bnd i453 (by decide) (by decide) | exact bndd i453 c464 (by decide) (by decide) | exact ⟨by fail, by fail⟩) (by first | exact bnd h_p1 (by decide) (by decide) | exact ⟨by fail, by fail⟩)) (fun c473 => ?_) (fun c473 => ?_)
                  · skip
                    exact GO.le (j472 dt450 hI451 hF452) ⟨.inl rfl, .inl rfl, .inl rfl, .inl rfl, .inl rfl, .inl rfl, trivial⟩
                  · skip
                    replace c473 := hid c473
                    refine go_toq PM61 (k := 2) (pc' := 97) (L' := [some (.inr (.inr (some 43))), some (.inl p1), some (.inl p2), some (.inl l11_3), none, some (.inl l82_5)]) (st' := [.inl l82_5, .inr (.inr (some 43))]) (w' := (SH, dt450)) rfl ?_
                    refine go_callq PM61 PM54 (Q' := _) rfl rfl rfl rfl (sp_X4_canSee_43 L xs sio (d + 0) dt450 hI451  l82_5 (by first | exact bnd i453 (by decide) (by decide) | exact bndd i453 c464 (by decide) (by decide) | exact ⟨by fail, by fail⟩) ) ?_
                    rintro _ _ ⟨rfl, h474⟩
                    refine ⟨rfl, ?_⟩
                    rcases h474 with ⟨rfl, h474⟩ | ⟨rfl, h474⟩
                    · skip
                      refine go_toq PM61 (k := 6) (pc' := 109) (L' := [some (.inr (.inr (some 43))), some (.inl p1), some (.inl p2), some (.inl l11_3), none, some (.inl l82_5)]) (st' := [.inl p2, .inl l11_3, .inl p1, .inl l82_5, .inr (.inr (some 43))]) (w' := (SH, dt450)) rfl ?_
                      refine go_callq PM61 PM62 (Q' := _) rfl rfl rfl rfl (sp_X4_watchLift_43 L xs sio (d + 0) dt450 hI451  l82_5 (by first | exact bnd i453 (by decide) (by decide) | exact bndd i453 c464 (by decide) (by decide) | exact ⟨by fail, by fail⟩) p1 (by first | exact h_p1 | exact bnd h_p1 (by decide) (by decide) | exact ⟨by fail, by fail⟩) l11_3 (by first | exact bnd i309 (by decide) (by decide) | exact bndd i309 c386 (by decide) (by decide) | exact ⟨by fail, by fail⟩) p2 (by first | exact h_p2 | exact bnd h_p2 (by decide) (by decide) | exact ⟨by fail, by fail⟩) ) ?_
                      rintro _ _ ⟨dt476, rfl, hI477, hF478, h475⟩
                      refine ⟨rfl, ?_⟩
                      have hF479 : Fr [52, 53, 55, 56] dt dt476 := Fr_tr hF452 hF478 (by decide)
                      rcases h475 with ⟨rfl, h475⟩
                      exact GO.le (j472 dt476 hI477 hF479) ⟨.inl rfl, .inl rfl, .inl rfl, .inl rfl, .inl rfl, .inl rfl, trivial⟩
                    · skip
                      refine go_toq PM61 (k := 1) (pc' := 112) (L' := [some (.inr (.inr (some 43))), some (.inl p1), some (.inl p2), some (.inl l11_3), none, some (.inl l82_5)]) (st' := []) (w' := (SH, dt450)) rfl ?_
                      exact GO.le (j472 dt450 hI451 hF452) ⟨.inl rfl, .inl rfl, .inl rfl, .inl rfl, .inl rfl, .inl rfl, trivial⟩
            exact GO.le (loop454 _ 0 j399_d j399_hI j399_hF ⟨by decide, by decide⟩ (Nat.lt_succ_self _)) ⟨.inl rfl, .inl rfl, .inl rfl, .inl rfl, .inl rfl, .inl rfl, trivial⟩
          refine go_ifq PM61 (k := 1) (p1 := 60) (p2 := 33) (L' := [some (.inr (.inr (some 43))), some (.inl p1), some (.inl p2), some (.inl l11_3), some (.inl ((p1 * 3) + l11_3)), none]) (st' := []) (w' := (SH, dt306)) rfl (c_ne (a := dt306 47 (l11_3).toNat) (b := p2) (by first | exact bnd r387 (by decide) (by decide) | exact ⟨by fail, by fail⟩) (by first | exact bnd h_p2 (by decide) (by decide) | exact ⟨by fail, by fail⟩)) (fun c480 => ?_) (fun c480 => ?_)
          · skip
            replace c480 := hid c480
            refine go_toq PM61 (k := 3) (pc' := 66) (L' := [some (.inr (.inr (some 43))), some (.inl p1), some (.inl p2), some (.inl l11_3), some (.inl ((p1 * 3) + l11_3)), none]) (st' := [.inl ((p1 * 3) + l11_3), .inr (.inr (some 52))]) (w' := (SH, dt306)) rfl ?_
            have r481 : (-2147483648) ≤ dt306 52 (((p1 * 3) + l11_3).toNat) ∧ dt306 52 (((p1 * 3) + l11_3).toNat) ≤ 2147483647 := InvC_get hI307 52 (((p1 * 3) + l11_3).toNat) rfl rfl
            refine go_smpq PM61 (L' := [some (.inr (.inr (some 43))), some (.inl p1), some (.inl p2), some (.inl l11_3), some (.inl ((p1 * 3) + l11_3)), none]) (st' := [.inl (dt306 52 (((p1 * 3) + l11_3).toNat))]) (w' := (SH, dt306)) rfl rfl (s_iald (n := 12) (f := dt306 52) rfl ⟨by omega, by omega⟩) ?_
            refine go_ifq PM61 (k := 1) (p1 := 79) (p2 := 71) (L' := [some (.inr (.inr (some 43))), some (.inl p1), some (.inl p2), some (.inl l11_3), some (.inl ((p1 * 3) + l11_3)), none]) (st' := []) (w' := (SH, dt306)) rfl (c_ne (a := dt306 52 (((p1 * 3) + l11_3).toNat)) (b := p2) (by first | exact bnd r481 (by decide) (by decide) | exact ⟨by fail, by fail⟩) (by first | exact bnd h_p2 (by decide) (by decide) | exact ⟨by fail, by fail⟩)) (fun c482 => ?_) (fun c482 => ?_)
            · skip
              replace c482 := hid c482
              exact GO.le (j399 dt306 hI307 hF308) ⟨.inl rfl, .inl rfl, .inl rfl, .inl rfl, .inr ⟨rfl, trivial⟩, .inl rfl, trivial⟩
            · skip
              refine go_toq PM61 (k := 4) (pc' := 78) (L' := [some (.inr (.inr (some 43))), some (.inl p1), some (.inl p2), some (.inl l11_3), some (.inl ((p1 * 3) + l11_3)), none]) (st' := [.inl (-1), .inl ((p1 * 3) + l11_3), .inr (.inr (some 52))]) (w' := (SH, dt306)) rfl ?_
              have hI483 : InvC (u2 dt306 52 (((p1 * 3) + l11_3).toNat) (-1)) := InvC_u2 hI307 (lo := -2147483648) (hi := 2147483647) rfl rfl rfl (by decide) (by decide)
              have hF484 : Fr [52, 53, 55, 56] dt (u2 dt306 52 (((p1 * 3) + l11_3).toNat) (-1)) := Fr_u2 hF308 (by decide)
              refine go_smpq PM61 (L' := [some (.inr (.inr (some 43))), some (.inl p1), some (.inl p2), some (.inl l11_3), some (.inl ((p1 * 3) + l11_3)), none]) (st' := []) (w' := (SH, (u2 dt306 52 (((p1 * 3) + l11_3).toNat) (-1)))) rfl rfl (s_iast (n := 12) rfl ⟨by omega, by omega⟩ ⟨by decide, by decide⟩) ?_
              exact GO.le (j399 (u2 dt306 52 (((p1 * 3) + l11_3).toNat) (-1)) hI483 hF484) ⟨.inl rfl, .inl rfl, .inl rfl, .inl rfl, .inr ⟨rfl, trivial⟩, .inl rfl, trivial⟩
          · skip
            refine go_toq PM61 (k := 4) (pc' := 40) (L' := [some (.inr (.inr (some 43))), some (.inl p1), some (.inl p2), some (.inl l11_3), some (.inl ((p1 * 3) + l11_3)), none]) (st' := [.inl p2, .inl ((p1 * 3) + l11_3), .inr (.inr (some 52))]) (w' := (SH, dt306)) rfl ?_
            have hI485 : InvC (u2 dt306 52 (((p1 * 3) + l11_3).toNat) p2) := InvC_u2 hI307 (lo := -2147483648) (hi := 2147483647) rfl rfl rfl (by first | exact bnd1 h_p2 (by decide) | fail) (by first | exact bnd2 h_p2 (by decide) | fail)
            have hF486 : Fr [52, 53, 55, 56] dt (u2 dt306 52 (((p1 * 3) + l11_3).toNat) p2) := Fr_u2 hF308 (by decide)
            refine go_smpq PM61 (L' := [some (.inr (.inr (some 43))), some (.inl p1), some (.inl p2), some (.inl l11_3), some (.inl ((p1 * 3) + l11_3)), none]) (st' := []) (w' := (SH, (u2 dt306 52 (((p1 * 3) + l11_3).toNat) p2))) rfl rfl (s_iast (n := 12) rfl ⟨by omega, by omega⟩ (by first | exact bnd h_p2 (by decide) (by decide) | exact ⟨by fail, by fail⟩)) ?_
            refine go_toq PM61 (k := 4) (pc' := 48) (L' := [some (.inr (.inr (some 43))), some (.inl p1), some (.inl p2), some (.inl l11_3), some (.inl ((p1 * 3) + l11_3)), none]) (st' := [.inl p2, .inl ((p1 * 3) + l11_3), .inr (.inr (some 53))]) (w' := (SH, (u2 dt306 52 (((p1 * 3) + l11_3).toNat) p2))) rfl ?_
            have hI487 : InvC (u2 (u2 dt306 52 (((p1 * 3) + l11_3).toNat) p2) 53 (((p1 * 3) + l11_3).toNat) p2) := InvC_u2 hI485 (lo := -2147483648) (hi := 2147483647) rfl rfl rfl (by first | exact bnd1 h_p2 (by decide) | fail) (by first | exact bnd2 h_p2 (by decide) | fail)
            have hF488 : Fr [52, 53, 55, 56] dt (u2 (u2 dt306 52 (((p1 * 3) + l11_3).toNat) p2) 53 (((p1 * 3) + l11_3).toNat) p2) := Fr_u2 hF486 (by decide)
            refine go_smpq PM61 (L' := [some (.inr (.inr (some 43))), some (.inl p1), some (.inl p2), some (.inl l11_3), some (.inl ((p1 * 3) + l11_3)), none]) (st' := []) (w' := (SH, (u2 (u2 dt306 52 (((p1 * 3) + l11_3).toNat) p2) 53 (((p1 * 3) + l11_3).toNat) p2))) rfl rfl (s_iast (n := 12) rfl ⟨by omega, by omega⟩ (by first | exact bnd h_p2 (by decide) (by decide) | exact ⟨by fail, by fail⟩)) ?_
            refine go_toq PM61 (k := 4) (pc' := 56) (L' := [some (.inr (.inr (some 43))), some (.inl p1), some (.inl p2), some (.inl l11_3), some (.inl ((p1 * 3) + l11_3)), none]) (st' := [.inl 1, .inl ((p1 * 3) + l11_3), .inr (.inr (some 55))]) (w' := (SH, (u2 (u2 dt306 52 (((p1 * 3) + l11_3).toNat) p2) 53 (((p1 * 3) + l11_3).toNat) p2))) rfl ?_
            have hI489 : InvC (u2 (u2 (u2 dt306 52 (((p1 * 3) + l11_3).toNat) p2) 53 (((p1 * 3) + l11_3).toNat) p2) 55 (((p1 * 3) + l11_3).toNat) 1) := InvC_u2 hI487 (lo := -2147483648) (hi := 2147483647) rfl rfl rfl (by decide) (by decide)
            have hF490 : Fr [52, 53, 55, 56] dt (u2 (u2 (u2 dt306 52 (((p1 * 3) + l11_3).toNat) p2) 53 (((p1 * 3) + l11_3).toNat) p2) 55 (((p1 * 3) + l11_3).toNat) 1) := Fr_u2 hF488 (by decide)
            refine go_smpq PM61 (L' := [some (.inr (.inr (some 43))), some (.inl p1), some (.inl p2), some (.inl l11_3), some (.inl ((p1 * 3) + l11_3)), none]) (st' := []) (w' := (SH, (u2 (u2 (u2 dt306 52 (((p1 * 3) + l11_3).toNat) p2) 53 (((p1 * 3) + l11_3).toNat) p2) 55 (((p1 * 3) + l11_3).toNat) 1))) rfl rfl (s_iast (n := 12) rfl ⟨by omega, by omega⟩ ⟨by decide, by decide⟩) ?_
            refine go_toq PM61 (k := 1) (pc' := 79) (L' := [some (.inr (.inr (some 43))), some (.inl p1), some (.inl p2), some (.inl l11_3), some (.inl ((p1 * 3) + l11_3)), none]) (st' := []) (w' := (SH, (u2 (u2 (u2 dt306 52 (((p1 * 3) + l11_3).toNat) p2) 53 (((p1 * 3) + l11_3).toNat) p2) 55 (((p1 * 3) + l11_3).toNat) 1))) rfl ?_
            exact GO.le (j399 (u2 (u2 (u2 dt306 52 (((p1 * 3) + l11_3).toNat) p2) 53 (((p1 * 3) + l11_3).toNat) p2) 55 (((p1 * 3) + l11_3).toNat) 1) hI489 hF490) ⟨.inl rfl, .inl rfl, .inl rfl, .inl rfl, .inr ⟨rfl, trivial⟩, .inl rfl, trivial⟩
    exact GO.le (loop310 _ 0 dt hI hF ⟨by decide, by decide⟩ (Nat.lt_succ_self _)) ⟨.inl rfl, .inl rfl, .inl rfl, .inl rfl, .inl rfl, .inl rfl, trivial⟩
  · skip
    refine go_retq PM61 (k := 1) (r := none) (w1 := (SH, dt)) rfl ?_
    exact ⟨dt, rfl, hI, hF, ⟨rfl, trivial⟩⟩
theorem sp_X4_act_43 (L : Nat) (xs : Nat → Int32) (sio : Option Nat) (d : Nat) (dt : Nat → Nat → Int) (hI : InvC dt)  (p1 : Int) (h_p1 : (-2147483648) ≤ p1 ∧ p1 ≤ 2147483647)  : GO (am_XX L xs sio) (d + 3) 53 0 [some (.inr (.inr (some 43))), some (.inl p1), none, none, none, none] [] (SH, dt) (fun r w2 => ∃ dt2 : Nat → Nat → Int, w2 = (SH, dt2) ∧ InvC dt2 ∧ Fr [44, 45, 46, 47, 48, 49, 50, 51, 52, 53, 54, 55, 56] dt dt2 ∧ ((r = none ∧ True))) := by
  have hF : Fr [44, 45, 46, 47, 48, 49, 50, 51, 52, 53, 54, 55, 56] dt dt := Fr_refl
  have r1 : -2147483648 ≤ am_shr p1 4 ∧ am_shr p1 4 ≤ 2147483647 := am_shr_R
  have r2 : 0 ≤ am_and (am_shr p1 4) 3 ∧ am_and (am_shr p1 4) 3 ≤ 3 := and_R3
  have r3 : -2147483648 ≤ am_shr p1 6 ∧ am_shr p1 6 ≤ 2147483647 := am_shr_R
  have r4 : 0 ≤ am_and (am_shr p1 6) 3 ∧ am_and (am_shr p1 6) 3 ≤ 3 := and_R3
  have r5 : -2147483648 ≤ am_shr p1 8 ∧ am_shr p1 8 ≤ 2147483647 := am_shr_R
  have r6 : 0 ≤ am_and (am_shr p1 8) 3 ∧ am_and (am_shr p1 8) 3 ≤ 3 := and_R3
  have r7 : -2147483648 ≤ am_shr p1 10 ∧ am_shr p1 10 ≤ 2147483647 := am_shr_R
  have r8 : 0 ≤ am_and (am_shr p1 10) 3 ∧ am_and (am_shr p1 10) 3 ≤ 3 := and_R3
  refine go_toq PM53 (k := 25) (pc' := 31) (L' := [some (.inr (.inr (some 43))), some (.inl p1), some (.inl (am_and (am_shr p1 4) 3)), some (.inl (am_and (am_shr p1 6) 3)), some (.inl (am_and (am_shr p1 8) 3)), some (.inl (am_and (am_shr p1 10) 3))]) (st' := [.inl (am_and (am_shr p1 8) 3)]) (w' := (SH, dt)) rfl ?_
  refine go_callq PM53 PM104 (Q' := _) rfl rfl rfl rfl (sp_X5_isThing L xs sio (d + 1) dt hI  (am_and (am_shr p1 8) 3) (by first | exact bnd r6 (by decide) (by decide) | exact ⟨by fail, by fail⟩) ) ?_
  rintro _ _ ⟨rfl, h9⟩
  refine ⟨rfl, ?_⟩
  rcases h9 with ⟨rfl, h9⟩ | ⟨rfl, h9⟩
  · skip
    have r10 : 0 ≤ am_and p1 15 ∧ am_and p1 15 ≤ 15 := and_R15
    have j69 : ∀ (j69_d : Nat → Nat → Int) (j69_hI : InvC j69_d) (j69_hF : Fr [44, 45, 46, 47, 48, 49, 50, 51, 52, 53, 54, 55, 56] dt j69_d), GO (am_XX L xs sio) (d + 3) 53 228 [some (.inr (.inr (some 43))), none, none, none, none, none] [] (SH, j69_d) (fun r w2 => ∃ dt2 : Nat → Nat → Int, w2 = (SH, dt2) ∧ InvC dt2 ∧ Fr [44, 45, 46, 47, 48, 49, 50, 51, 52, 53, 54, 55, 56] dt dt2 ∧ ((r = none ∧ True))) := by
      intro j69_d j69_hI j69_hF
      refine go_retq PM53 (k := 0) (r := none) (w1 := (SH, j69_d)) rfl ?_
      exact ⟨j69_d, rfl, j69_hI, j69_hF, ⟨rfl, trivial⟩⟩
    have r70 := wr_RR (am_and p1 15)
    refine go_toq PM53 (k := 4) (pc' := 42) (L' := [some (.inr (.inr (some 43))), some (.inl p1), some (.inl (am_and (am_shr p1 4) 3)), some (.inl (am_and (am_shr p1 6) 3)), some (.inl (am_and (am_shr p1 8) 3)), some (.inl (am_and (am_shr p1 10) 3))]) (st' := [.inl (am_and p1 15)]) (w' := (SH, dt)) rfl ?_
    have e72 : wr (am_and p1 15) = (am_and p1 15) := wr_R ⟨by omega, by omega⟩
    by_cases c71 : wr (am_and p1 15) < 0 ∨ 8 < wr (am_and p1 15)
    · refine go_swoq PM53 (p1 := 228) (lo := 0) (hi := 8) rfl rfl c71 ?_
      exact GO.le (j69 dt hI hF) ⟨.inl rfl, .inr ⟨rfl, trivial⟩, .inr ⟨rfl, trivial⟩, .inr ⟨rfl, trivial⟩, .inr ⟨rfl, trivial⟩, .inr ⟨rfl, trivial⟩, trivial⟩
    · have c73 : wr (am_and p1 15) = 0 ∨ wr (am_and p1 15) = 1 ∨ wr (am_and p1 15) = 2 ∨ wr (am_and p1 15) = 3 ∨ wr (am_and p1 15) = 4 ∨ wr (am_and p1 15) = 5 ∨ wr (am_and p1 15) = 6 ∨ wr (am_and p1 15) = 7 ∨ wr (am_and p1 15) = 8 := by omega
      rcases c73 with c73 | c73 | c73 | c73 | c73 | c73 | c73 | c73 | c73
      · refine go_swiq PM53 (v := 0) (p1 := 92) (lo := 0) (hi := 8) rfl c73 (by decide) rfl ?_
        refine go_toq PM53 (k := 4) (pc' := 98) (L' := [some (.inr (.inr (some 43))), some (.inl p1), some (.inl (am_and (am_shr p1 4) 3)), some (.inl (am_and (am_shr p1 6) 3)), some (.inl (am_and (am_shr p1 8) 3)), some (.inl (am_and (am_shr p1 10) 3))]) (st' := [.inl 1, .inl (am_and (am_shr p1 4) 3), .inr (.inr (some 44))]) (w' := (SH, dt)) rfl ?_
        have hI74 : InvC (u2 dt 44 ((am_and (am_shr p1 4) 3).toNat) 1) := InvC_u2 hI (lo := -2147483648) (hi := 2147483647) rfl rfl rfl (by decide) (by decide)
        have hF75 : Fr [44, 45, 46, 47, 48, 49, 50, 51, 52, 53, 54, 55, 56] dt (u2 dt 44 ((am_and (am_shr p1 4) 3).toNat) 1) := Fr_u2 hF (by decide)
        refine go_smpq PM53 (L' := [some (.inr (.inr (some 43))), some (.inl p1), some (.inl (am_and (am_shr p1 4) 3)), some (.inl (am_and (am_shr p1 6) 3)), some (.inl (am_and (am_shr p1 8) 3)), some (.inl (am_and (am_shr p1 10) 3))]) (st' := []) (w' := (SH, (u2 dt 44 ((am_and (am_shr p1 4) 3).toNat) 1))) rfl rfl (s_iast (n := 4) rfl (by first | exact bndx r2 (by decide) (by decide) | exact ⟨by fail, by fail⟩) ⟨by decide, by decide⟩) ?_
        refine go_toq PM53 (k := 1) (pc' := 228) (L' := [some (.inr (.inr (some 43))), some (.inl p1), some (.inl (am_and (am_shr p1 4) 3)), some (.inl (am_and (am_shr p1 6) 3)), some (.inl (am_and (am_shr p1 8) 3)), some (.inl (am_and (am_shr p1 10) 3))]) (st' := []) (w' := (SH, (u2 dt 44 ((am_and (am_shr p1 4) 3).toNat) 1))) rfl ?_
        exact GO.le (j69 (u2 dt 44 ((am_and (am_shr p1 4) 3).toNat) 1) hI74 hF75) ⟨.inl rfl, .inr ⟨rfl, trivial⟩, .inr ⟨rfl, trivial⟩, .inr ⟨rfl, trivial⟩, .inr ⟨rfl, trivial⟩, .inr ⟨rfl, trivial⟩, trivial⟩
      · refine go_swiq PM53 (v := 1) (p1 := 102) (lo := 0) (hi := 8) rfl c73 (by decide) rfl ?_
        refine go_toq PM53 (k := 4) (pc' := 108) (L' := [some (.inr (.inr (some 43))), some (.inl p1), some (.inl (am_and (am_shr p1 4) 3)), some (.inl (am_and (am_shr p1 6) 3)), some (.inl (am_and (am_shr p1 8) 3)), some (.inl (am_and (am_shr p1 10) 3))]) (st' := [.inl 0, .inl (am_and (am_shr p1 4) 3), .inr (.inr (some 44))]) (w' := (SH, dt)) rfl ?_
        have hI76 : InvC (u2 dt 44 ((am_and (am_shr p1 4) 3).toNat) 0) := InvC_u2 hI (lo := -2147483648) (hi := 2147483647) rfl rfl rfl (by decide) (by decide)
        have hF77 : Fr [44, 45, 46, 47, 48, 49, 50, 51, 52, 53, 54, 55, 56] dt (u2 dt 44 ((am_and (am_shr p1 4) 3).toNat) 0) := Fr_u2 hF (by decide)
        refine go_smpq PM53 (L' := [some (.inr (.inr (some 43))), some (.inl p1), some (.inl (am_and (am_shr p1 4) 3)), some (.inl (am_and (am_shr p1 6) 3)), some (.inl (am_and (am_shr p1 8) 3)), some (.inl (am_and (am_shr p1 10) 3))]) (st' := []) (w' := (SH, (u2 dt 44 ((am_and (am_shr p1 4) 3).toNat) 0))) rfl rfl (s_iast (n := 4) rfl (by first | exact bndx r2 (by decide) (by decide) | exact ⟨by fail, by fail⟩) ⟨by decide, by decide⟩) ?_
        refine go_toq PM53 (k := 1) (pc' := 228) (L' := [some (.inr (.inr (some 43))), some (.inl p1), some (.inl (am_and (am_shr p1 4) 3)), some (.inl (am_and (am_shr p1 6) 3)), some (.inl (am_and (am_shr p1 8) 3)), some (.inl (am_and (am_shr p1 10) 3))]) (st' := []) (w' := (SH, (u2 dt 44 ((am_and (am_shr p1 4) 3).toNat) 0))) rfl ?_
        exact GO.le (j69 (u2 dt 44 ((am_and (am_shr p1 4) 3).toNat) 0) hI76 hF77) ⟨.inl rfl, .inr ⟨rfl, trivial⟩, .inr ⟨rfl, trivial⟩, .inr ⟨rfl, trivial⟩, .inr ⟨rfl, trivial⟩, .inr ⟨rfl, trivial⟩, trivial⟩
      · refine go_swiq PM53 (v := 2) (p1 := 112) (lo := 0) (hi := 8) rfl c73 (by decide) rfl ?_
        refine go_toq PM53 (k := 7) (pc' := 124) (L' := [some (.inr (.inr (some 43))), some (.inl p1), some (.inl (am_and (am_shr p1 4) 3)), some (.inl (am_and (am_shr p1 6) 3)), some (.inl (am_and (am_shr p1 8) 3)), some (.inl (am_and (am_shr p1 10) 3))]) (st' := [.inl (am_and (am_shr p1 8) 3), .inr (.inr (some 47)), .inl (am_and (am_shr p1 10) 3), .inl (am_and (am_shr p1 8) 3), .inl (am_and (am_shr p1 4) 3), .inr (.inr (some 43))]) (w' := (SH, dt)) rfl ?_
        have r78 : (-2147483648) ≤ dt 47 ((am_and (am_shr p1 8) 3).toNat) ∧ dt 47 ((am_and (am_shr p1 8) 3).toNat) ≤ 2147483647 := InvC_get hI 47 ((am_and (am_shr p1 8) 3).toNat) rfl rfl
        refine go_smpq PM53 (L' := [some (.inr (.inr (some 43))), some (.inl p1), some (.inl (am_and (am_shr p1 4) 3)), some (.inl (am_and (am_shr p1 6) 3)), some (.inl (am_and (am_shr p1 8) 3)), some (.inl (am_and (am_shr p1 10) 3))]) (st' := [.inl (dt 47 ((am_and (am_shr p1 8) 3).toNat)), .inl (am_and (am_shr p1 10) 3), .inl (am_and (am_shr p1 8) 3), .inl (am_and (am_shr p1 4) 3), .inr (.inr (some 43))]) (w' := (SH, dt)) rfl rfl (s_iald (n := 3) (f := dt 47) rfl (by first | exact bndx r6 (by decide) (by decide) | exact ⟨by omega, by omega⟩)) ?_
        refine go_ifq PM53 (k := 1) (p1 := 133) (p2 := 129) (L' := [some (.inr (.inr (some 43))), some (.inl p1), some (.inl (am_and (am_shr p1 4) 3)), some (.inl (am_and (am_shr p1 6) 3)), some (.inl (am_and (am_shr p1 8) 3)), some (.inl (am_and (am_shr p1 10) 3))]) (st' := [.inl (am_and (am_shr p1 10) 3), .inl (am_and (am_shr p1 8) 3), .inl (am_and (am_shr p1 4) 3), .inr (.inr (some 43))]) (w' := (SH, dt)) rfl (c_ne (a := dt 47 ((am_and (am_shr p1 8) 3).toNat)) (b := (-1)) (by first | exact bnd r78 (by decide) (by decide) | exact ⟨by fail, by fail⟩) ⟨by decide, by decide⟩) (fun c80 => ?_) (fun c80 => ?_)
        · skip
          replace c80 := hid c80
          refine go_toq PM53 (k := 1) (pc' := 134) (L' := [some (.inr (.inr (some 43))), some (.inl p1), some (.inl (am_and (am_shr p1 4) 3)), some (.inl (am_and (am_shr p1 6) 3)), some (.inl (am_and (am_shr p1 8) 3)), some (.inl (am_and (am_shr p1 10) 3))]) (st' := [.inl 0, .inl (am_and (am_shr p1 10) 3), .inl (am_and (am_shr p1 8) 3), .inl (am_and (am_shr p1 4) 3), .inr (.inr (some 43))]) (w' := (SH, dt)) rfl ?_
          refine go_callq PM53 PM58 (Q' := _) rfl rfl rfl rfl (sp_X4_bring_43 L xs sio (d + 0) dt hI  (am_and (am_shr p1 4) 3) (by first | exact bnd r2 (by decide) (by decide) | exact ⟨by fail, by fail⟩) (am_and (am_shr p1 8) 3) (by first | exact bnd r6 (by decide) (by decide) | exact ⟨by omega, by omega⟩) (am_and (am_shr p1 10) 3) (by first | exact bnd r8 (by decide) (by decide) | exact ⟨by fail, by fail⟩) 0 ⟨by decide, by decide⟩ ) ?_
          rintro _ _ ⟨dt82, rfl, hI83, hF84, h81⟩
          refine ⟨rfl, ?_⟩
          have hF85 : Fr [44, 45, 46, 47, 48, 49, 50, 51, 52, 53, 54, 55, 56] dt dt82 := Fr_tr hF hF84 (by decide)
          rcases h81 with ⟨rfl, h81⟩
          refine go_toq PM53 (k := 1) (pc' := 228) (L' := [some (.inr (.inr (some 43))), some (.inl p1), some (.inl (am_and (am_shr p1 4) 3)), some (.inl (am_and (am_shr p1 6) 3)), some (.inl (am_and (am_shr p1 8) 3)), some (.inl (am_and (am_shr p1 10) 3))]) (st' := []) (w' := (SH, dt82)) rfl ?_
          exact GO.le (j69 dt82 hI83 hF85) ⟨.inl rfl, .inr ⟨rfl, trivial⟩, .inr ⟨rfl, trivial⟩, .inr ⟨rfl, trivial⟩, .inr ⟨rfl, trivial⟩, .inr ⟨rfl, trivial⟩, trivial⟩
        · skip
          refine go_toq PM53 (k := 2) (pc' := 134) (L' := [some (.inr (.inr (some 43))), some (.inl p1), some (.inl (am_and (am_shr p1 4) 3)), some (.inl (am_and (am_shr p1 6) 3)), some (.inl (am_and (am_shr p1 8) 3)), some (.inl (am_and (am_shr p1 10) 3))]) (st' := [.inl 1, .inl (am_and (am_shr p1 10) 3), .inl (am_and (am_shr p1 8) 3), .inl (am_and (am_shr p1 4) 3), .inr (.inr (some 43))]) (w' := (SH, dt)) rfl ?_
          refine go_callq PM53 PM58 (Q' := _) rfl rfl rfl rfl (sp_X4_bring_43 L xs sio (d + 0) dt hI  (am_and (am_shr p1 4) 3) (by first | exact bnd r2 (by decide) (by decide) | exact ⟨by fail, by fail⟩) (am_and (am_shr p1 8) 3) (by first | exact bnd r6 (by decide) (by decide) | exact ⟨by omega, by omega⟩) (am_and (am_shr p1 10) 3) (by first | exact bnd r8 (by decide) (by decide) | exact ⟨by fail, by fail⟩) 1 ⟨by decide, by decide⟩ ) ?_
          rintro _ _ ⟨dt87, rfl, hI88, hF89, h86⟩
          refine ⟨rfl, ?_⟩
          have hF90 : Fr [44, 45, 46, 47, 48, 49, 50, 51, 52, 53, 54, 55, 56] dt dt87 := Fr_tr hF hF89 (by decide)
          rcases h86 with ⟨rfl, h86⟩
          refine go_toq PM53 (k := 1) (pc' := 228) (L' := [some (.inr (.inr (some 43))), some (.inl p1), some (.inl (am_and (am_shr p1 4) 3)), some (.inl (am_and (am_shr p1 6) 3)), some (.inl (am_and (am_shr p1 8) 3)), some (.inl (am_and (am_shr p1 10) 3))]) (st' := []) (w' := (SH, dt87)) rfl ?_
          exact GO.le (j69 dt87 hI88 hF90) ⟨.inl rfl, .inr ⟨rfl, trivial⟩, .inr ⟨rfl, trivial⟩, .inr ⟨rfl, trivial⟩, .inr ⟨rfl, trivial⟩, .inr ⟨rfl, trivial⟩, trivial⟩
      · refine go_swiq PM53 (v := 3) (p1 := 140) (lo := 0) (hi := 8) rfl c73 (by decide) rfl ?_
        refine go_toq PM53 (k := 7) (pc' := 152) (L' := [some (.inr (.inr (some 43))), some (.inl p1), some (.inl (am_and (am_shr p1 4) 3)), some (.inl (am_and (am_shr p1 6) 3)), some (.inl (am_and (am_shr p1 8) 3)), some (.inl (am_and (am_shr p1 10) 3))]) (st' := [.inl (am_and (am_shr p1 8) 3), .inr (.inr (some 47)), .inl (am_and (am_shr p1 10) 3), .inl (am_and (am_shr p1 8) 3), .inl (am_and (am_shr p1 4) 3), .inr (.inr (some 43))]) (w' := (SH, dt)) rfl ?_
        have r91 : (-2147483648) ≤ dt 47 ((am_and (am_shr p1 8) 3).toNat) ∧ dt 47 ((am_and (am_shr p1 8) 3).toNat) ≤ 2147483647 := InvC_get hI 47 ((am_and (am_shr p1 8) 3).toNat) rfl rfl
        refine go_smpq PM53 (L' := [some (.inr (.inr (some 43))), some (.inl p1), some (.inl (am_and (am_shr p1 4) 3)), some (.inl (am_and (am_shr p1 6) 3)), some (.inl (am_and (am_shr p1 8) 3)), some (.inl (am_and (am_shr p1 10) 3))]) (st' := [.inl (dt 47 ((am_and (am_shr p1 8) 3).toNat)), .inl (am_and (am_shr p1 10) 3), .inl (am_and (am_shr p1 8) 3), .inl (am_and (am_shr p1 4) 3), .inr (.inr (some 43))]) (w' := (SH, dt)) rfl rfl (s_iald (n := 3) (f := dt 47) rfl (by first | exact bndx r6 (by decide) (by decide) | exact ⟨by omega, by omega⟩)) ?_
        refine go_ifq PM53 (k := 1) (p1 := 161) (p2 := 157) (L' := [some (.inr (.inr (some 43))), some (.inl p1), some (.inl (am_and (am_shr p1 4) 3)), some (.inl (am_and (am_shr p1 6) 3)), some (.inl (am_and (am_shr p1 8) 3)), some (.inl (am_and (am_shr p1 10) 3))]) (st' := [.inl (am_and (am_shr p1 10) 3), .inl (am_and (am_shr p1 8) 3), .inl (am_and (am_shr p1 4) 3), .inr (.inr (some 43))]) (w' := (SH, dt)) rfl (c_eq (a := dt 47 ((am_and (am_shr p1 8) 3).toNat)) (b := (-1)) (by first | exact bnd r91 (by decide) (by decide) | exact ⟨by fail, by fail⟩) ⟨by decide, by decide⟩) (fun c93 => ?_) (fun c93 => ?_)
        · skip
          refine go_toq PM53 (k := 1) (pc' := 162) (L' := [some (.inr (.inr (some 43))), some (.inl p1), some (.inl (am_and (am_shr p1 4) 3)), some (.inl (am_and (am_shr p1 6) 3)), some (.inl (am_and (am_shr p1 8) 3)), some (.inl (am_and (am_shr p1 10) 3))]) (st' := [.inl 0, .inl (am_and (am_shr p1 10) 3), .inl (am_and (am_shr p1 8) 3), .inl (am_and (am_shr p1 4) 3), .inr (.inr (some 43))]) (w' := (SH, dt)) rfl ?_
          refine go_callq PM53 PM58 (Q' := _) rfl rfl rfl rfl (sp_X4_bring_43 L xs sio (d + 0) dt hI  (am_and (am_shr p1 4) 3) (by first | exact bnd r2 (by decide) (by decide) | exact ⟨by fail, by fail⟩) (am_and (am_shr p1 8) 3) (by first | exact bnd r6 (by decide) (by decide) | exact ⟨by omega, by omega⟩) (am_and (am_shr p1 10) 3) (by first | exact bnd r8 (by decide) (by decide) | exact ⟨by fail, by fail⟩) 0 ⟨by decide, by decide⟩ ) ?_
          rintro _ _ ⟨dt95, rfl, hI96, hF97, h94⟩
          refine ⟨rfl, ?_⟩
          have hF98 : Fr [44, 45, 46, 47, 48, 49, 50, 51, 52, 53, 54, 55, 56] dt dt95 := Fr_tr hF hF97 (by decide)
          rcases h94 with ⟨rfl, h94⟩
          refine go_toq PM53 (k := 1) (pc' := 228) (L' := [some (.inr (.inr (some 43))), some (.inl p1), some (.inl (am_and (am_shr p1 4) 3)), some (.inl (am_and (am_shr p1 6) 3)), some (.inl (am_and (am_shr p1 8) 3)), some (.inl (am_and (am_shr p1 10) 3))]) (st' := []) (w' := (SH, dt95)) rfl ?_
          exact GO.le (j69 dt95 hI96 hF98) ⟨.inl rfl, .inr ⟨rfl, trivial⟩, .inr ⟨rfl, trivial⟩, .inr ⟨rfl, trivial⟩, .inr ⟨rfl, trivial⟩, .inr ⟨rfl, trivial⟩, trivial⟩
        · skip
          replace c93 := hid c93
          refine go_toq PM53 (k := 2) (pc' := 162) (L' := [some (.inr (.inr (some 43))), some (.inl p1), some (.inl (am_and (am_shr p1 4) 3)), some (.inl (am_and (am_shr p1 6) 3)), some (.inl (am_and (am_shr p1 8) 3)), some (.inl (am_and (am_shr p1 10) 3))]) (st' := [.inl 1, .inl (am_and (am_shr p1 10) 3), .inl (am_and (am_shr p1 8) 3), .inl (am_and (am_shr p1 4) 3), .inr (.inr (some 43))]) (w' := (SH, dt)) rfl ?_
          refine go_callq PM53 PM58 (Q' := _) rfl rfl rfl rfl (sp_X4_bring_43 L xs sio (d + 0) dt hI  (am_and (am_shr p1 4) 3) (by first | exact bnd r2 (by decide) (by decide) | exact ⟨by fail, by fail⟩) (am_and (am_shr p1 8) 3) (by first | exact bnd r6 (by decide) (by decide) | exact ⟨by omega, by omega⟩) (am_and (am_shr p1 10) 3) (by first | exact bnd r8 (by decide) (by decide) | exact ⟨by fail, by fail⟩) 1 ⟨by decide, by decide⟩ ) ?_
          rintro _ _ ⟨dt100, rfl, hI101, hF102, h99⟩
          refine ⟨rfl, ?_⟩
          have hF103 : Fr [44, 45, 46, 47, 48, 49, 50, 51, 52, 53, 54, 55, 56] dt dt100 := Fr_tr hF hF102 (by decide)
          rcases h99 with ⟨rfl, h99⟩
          refine go_toq PM53 (k := 1) (pc' := 228) (L' := [some (.inr (.inr (some 43))), some (.inl p1), some (.inl (am_and (am_shr p1 4) 3)), some (.inl (am_and (am_shr p1 6) 3)), some (.inl (am_and (am_shr p1 8) 3)), some (.inl (am_and (am_shr p1 10) 3))]) (st' := []) (w' := (SH, dt100)) rfl ?_
          exact GO.le (j69 dt100 hI101 hF103) ⟨.inl rfl, .inr ⟨rfl, trivial⟩, .inr ⟨rfl, trivial⟩, .inr ⟨rfl, trivial⟩, .inr ⟨rfl, trivial⟩, .inr ⟨rfl, trivial⟩, trivial⟩
      · refine go_swiq PM53 (v := 4) (p1 := 168) (lo := 0) (hi := 8) rfl c73 (by decide) rfl ?_
        refine go_toq PM53 (k := 5) (pc' := 175) (L' := [some (.inr (.inr (some 43))), some (.inl p1), some (.inl (am_and (am_shr p1 4) 3)), some (.inl (am_and (am_shr p1 6) 3)), some (.inl (am_and (am_shr p1 8) 3)), some (.inl (am_and (am_shr p1 10) 3))]) (st' := [.inl (am_and (am_shr p1 10) 3), .inl (am_and (am_shr p1 8) 3), .inl (am_and (am_shr p1 6) 3), .inl (am_and (am_shr p1 4) 3), .inr (.inr (some 43))]) (w' := (SH, dt)) rfl ?_
        refine go_callq PM53 PM60 (Q' := _) rfl rfl rfl rfl (sp_X4_inform_43 L xs sio (d + 2) dt hI  (am_and (am_shr p1 4) 3) (by first | exact bnd r2 (by decide) (by decide) | exact ⟨by fail, by fail⟩) (am_and (am_shr p1 6) 3) (by first | exact bnd r4 (by decide) (by decide) | exact ⟨by fail, by fail⟩) (am_and (am_shr p1 8) 3) (by first | exact bnd r6 (by decide) (by decide) | exact ⟨by omega, by omega⟩) (am_and (am_shr p1 10) 3) (by first | exact bnd r8 (by decide) (by decide) | exact ⟨by fail, by fail⟩) ) ?_
        rintro _ _ ⟨dt105, rfl, hI106, hF107, h104⟩
        refine ⟨rfl, ?_⟩
        have hF108 : Fr [44, 45, 46, 47, 48, 49, 50, 51, 52, 53, 54, 55, 56] dt dt105 := Fr_tr hF hF107 (by decide)
        rcases h104 with ⟨rfl, h104⟩
        refine go_toq PM53 (k := 1) (pc' := 228) (L' := [some (.inr (.inr (some 43))), some (.inl p1), some (.inl (am_and (am_shr p1 4) 3)), some (.inl (am_and (am_shr p1 6) 3)), some (.inl (am_and (am_shr p1 8) 3)), some (.inl (am_and (am_shr p1 10) 3))]) (st' := []) (w' := (SH, dt105)) rfl ?_
        exact GO.le (j69 dt105 hI106 hF108) ⟨.inl rfl, .inr ⟨rfl, trivial⟩, .inr ⟨rfl, trivial⟩, .inr ⟨rfl, trivial⟩, .inr ⟨rfl, trivial⟩, .inr ⟨rfl, trivial⟩, trivial⟩
      · refine go_swiq PM53 (v := 5) (p1 := 181) (lo := 0) (hi := 8) rfl c73 (by decide) rfl ?_
        refine go_toq PM53 (k := 3) (pc' := 185) (L' := [some (.inr (.inr (some 43))), some (.inl p1), some (.inl (am_and (am_shr p1 4) 3)), some (.inl (am_and (am_shr p1 6) 3)), some (.inl (am_and (am_shr p1 8) 3)), some (.inl (am_and (am_shr p1 10) 3))]) (st' := [.inl (am_and (am_shr p1 10) 3), .inl (am_and (am_shr p1 4) 3), .inr (.inr (some 43))]) (w' := (SH, dt)) rfl ?_
        refine go_callq PM53 PM61 (Q' := _) rfl rfl rfl rfl (sp_X4_lift_43 L xs sio (d + 1) dt hI  (am_and (am_shr p1 4) 3) (by first | exact bnd r2 (by decide) (by decide) | exact ⟨by fail, by fail⟩) (am_and (am_shr p1 10) 3) (by first | exact bnd r8 (by decide) (by decide) | exact ⟨by fail, by fail⟩) ) ?_
        rintro _ _ ⟨dt110, rfl, hI111, hF112, h109⟩
        refine ⟨rfl, ?_⟩
        have hF113 : Fr [44, 45, 46, 47, 48, 49, 50, 51, 52, 53, 54, 55, 56] dt dt110 := Fr_tr hF hF112 (by decide)
        rcases h109 with ⟨rfl, h109⟩
        refine go_toq PM53 (k := 1) (pc' := 228) (L' := [some (.inr (.inr (some 43))), some (.inl p1), some (.inl (am_and (am_shr p1 4) 3)), some (.inl (am_and (am_shr p1 6) 3)), some (.inl (am_and (am_shr p1 8) 3)), some (.inl (am_and (am_shr p1 10) 3))]) (st' := []) (w' := (SH, dt110)) rfl ?_
        exact GO.le (j69 dt110 hI111 hF113) ⟨.inl rfl, .inr ⟨rfl, trivial⟩, .inr ⟨rfl, trivial⟩, .inr ⟨rfl, trivial⟩, .inr ⟨rfl, trivial⟩, .inr ⟨rfl, trivial⟩, trivial⟩
      · refine go_swiq PM53 (v := 6) (p1 := 191) (lo := 0) (hi := 8) rfl c73 (by decide) rfl ?_
        have r114 : -2147483648 ≤ am_shr p1 12 ∧ am_shr p1 12 ≤ 2147483647 := am_shr_R
        have r115 : 0 ≤ am_and (am_shr p1 12) 1 ∧ am_and (am_shr p1 12) 1 ≤ 1 := and_R1
        refine go_toq PM53 (k := 7) (pc' := 199) (L' := [some (.inr (.inr (some 43))), some (.inl p1), some (.inl (am_and (am_shr p1 4) 3)), some (.inl (am_and (am_shr p1 6) 3)), some (.inl (am_and (am_shr p1 8) 3)), some (.inl (am_and (am_shr p1 10) 3))]) (st' := [.inl (am_and (am_shr p1 12) 1), .inl (am_and (am_shr p1 4) 3), .inr (.inr (some 43))]) (w' := (SH, dt)) rfl ?_
        refine go_callq PM53 PM56 (Q' := _) rfl rfl rfl rfl (sp_X4_wear_43 L xs sio (d + 2) dt hI  (am_and (am_shr p1 4) 3) (by first | exact bnd r2 (by decide) (by decide) | exact ⟨by fail, by fail⟩) (am_and (am_shr p1 12) 1) (by first | exact bnd r115 (by decide) (by decide) | exact ⟨by fail, by fail⟩) ) ?_
        rintro _ _ ⟨dt117, rfl, hI118, hF119, h116⟩
        refine ⟨rfl, ?_⟩
        have hF120 : Fr [44, 45, 46, 47, 48, 49, 50, 51, 52, 53, 54, 55, 56] dt dt117 := Fr_tr hF hF119 (by decide)
        rcases h116 with ⟨rfl, h116⟩
        refine go_toq PM53 (k := 1) (pc' := 228) (L' := [some (.inr (.inr (some 43))), some (.inl p1), some (.inl (am_and (am_shr p1 4) 3)), some (.inl (am_and (am_shr p1 6) 3)), some (.inl (am_and (am_shr p1 8) 3)), some (.inl (am_and (am_shr p1 10) 3))]) (st' := []) (w' := (SH, dt117)) rfl ?_
        exact GO.le (j69 dt117 hI118 hF120) ⟨.inl rfl, .inr ⟨rfl, trivial⟩, .inr ⟨rfl, trivial⟩, .inr ⟨rfl, trivial⟩, .inr ⟨rfl, trivial⟩, .inr ⟨rfl, trivial⟩, trivial⟩
      · refine go_swiq PM53 (v := 7) (p1 := 205) (lo := 0) (hi := 8) rfl c73 (by decide) rfl ?_
        refine go_toq PM53 (k := 4) (pc' := 211) (L' := [some (.inr (.inr (some 43))), some (.inl p1), some (.inl (am_and (am_shr p1 4) 3)), some (.inl (am_and (am_shr p1 6) 3)), some (.inl (am_and (am_shr p1 8) 3)), some (.inl (am_and (am_shr p1 10) 3))]) (st' := [.inl (-1), .inl (am_and (am_shr p1 4) 3), .inr (.inr (some 45))]) (w' := (SH, dt)) rfl ?_
        have hI121 : InvC (u2 dt 45 ((am_and (am_shr p1 4) 3).toNat) (-1)) := InvC_u2 hI (lo := -2147483648) (hi := 2147483647) rfl rfl rfl (by decide) (by decide)
        have hF122 : Fr [44, 45, 46, 47, 48, 49, 50, 51, 52, 53, 54, 55, 56] dt (u2 dt 45 ((am_and (am_shr p1 4) 3).toNat) (-1)) := Fr_u2 hF (by decide)
        refine go_smpq PM53 (L' := [some (.inr (.inr (some 43))), some (.inl p1), some (.inl (am_and (am_shr p1 4) 3)), some (.inl (am_and (am_shr p1 6) 3)), some (.inl (am_and (am_shr p1 8) 3)), some (.inl (am_and (am_shr p1 10) 3))]) (st' := []) (w' := (SH, (u2 dt 45 ((am_and (am_shr p1 4) 3).toNat) (-1)))) rfl rfl (s_iast (n := 4) rfl (by first | exact bndx r2 (by decide) (by decide) | exact ⟨by fail, by fail⟩) ⟨by decide, by decide⟩) ?_
        refine go_toq PM53 (k := 1) (pc' := 228) (L' := [some (.inr (.inr (some 43))), some (.inl p1), some (.inl (am_and (am_shr p1 4) 3)), some (.inl (am_and (am_shr p1 6) 3)), some (.inl (am_and (am_shr p1 8) 3)), some (.inl (am_and (am_shr p1 10) 3))]) (st' := []) (w' := (SH, (u2 dt 45 ((am_and (am_shr p1 4) 3).toNat) (-1)))) rfl ?_
        exact GO.le (j69 (u2 dt 45 ((am_and (am_shr p1 4) 3).toNat) (-1)) hI121 hF122) ⟨.inl rfl, .inr ⟨rfl, trivial⟩, .inr ⟨rfl, trivial⟩, .inr ⟨rfl, trivial⟩, .inr ⟨rfl, trivial⟩, .inr ⟨rfl, trivial⟩, trivial⟩
      · refine go_swiq PM53 (v := 8) (p1 := 215) (lo := 0) (hi := 8) rfl c73 (by decide) rfl ?_
        have r123 : -2147483648 ≤ am_shr p1 13 ∧ am_shr p1 13 ≤ 2147483647 := am_shr_R
        have r124 : 0 ≤ am_and (am_shr p1 13) 1 ∧ am_and (am_shr p1 13) 1 ≤ 1 := and_R1
        refine go_toq PM53 (k := 6) (pc' := 222) (L' := [some (.inr (.inr (some 43))), some (.inl p1), some (.inl (am_and (am_shr p1 4) 3)), some (.inl (am_and (am_shr p1 6) 3)), some (.inl (am_and (am_shr p1 8) 3)), some (.inl (am_and (am_shr p1 10) 3))]) (st' := [.inl (am_and (am_shr p1 13) 1), .inr (.inr (some 43))]) (w' := (SH, dt)) rfl ?_
        refine go_callq PM53 PM57 (Q' := _) rfl rfl rfl rfl (sp_X4_snap_43 L xs sio (d + 2) dt hI  (am_and (am_shr p1 13) 1) (by first | exact bnd r124 (by decide) (by decide) | exact ⟨by fail, by fail⟩) ) ?_
        rintro _ _ ⟨dt126, rfl, hI127, hF128, h125⟩
        refine ⟨rfl, ?_⟩
        have hF129 : Fr [44, 45, 46, 47, 48, 49, 50, 51, 52, 53, 54, 55, 56] dt dt126 := Fr_tr hF hF128 (by decide)
        rcases h125 with ⟨rfl, h125⟩
        refine go_toq PM53 (k := 1) (pc' := 228) (L' := [some (.inr (.inr (some 43))), some (.inl p1), some (.inl (am_and (am_shr p1 4) 3)), some (.inl (am_and (am_shr p1 6) 3)), some (.inl (am_and (am_shr p1 8) 3)), some (.inl (am_and (am_shr p1 10) 3))]) (st' := []) (w' := (SH, dt126)) rfl ?_
        exact GO.le (j69 dt126 hI127 hF129) ⟨.inl rfl, .inr ⟨rfl, trivial⟩, .inr ⟨rfl, trivial⟩, .inr ⟨rfl, trivial⟩, .inr ⟨rfl, trivial⟩, .inr ⟨rfl, trivial⟩, trivial⟩
  · skip
    refine go_retq PM53 (k := 1) (r := none) (w1 := (SH, dt)) rfl ?_
    exact ⟨dt, rfl, hI, hF, ⟨rfl, trivial⟩⟩
theorem sp_X4_begin (L : Nat) (xs : Nat → Int32) (sio : Option Nat) (d : Nat) (dt : Nat → Nat → Int) (hI : InvC dt)    : GO (am_XX L xs sio) (d + 1) 51 0 [some (.inr (.inr (some 43)))] [] (SH, dt) (fun r w2 => ∃ dt2 : Nat → Nat → Int, w2 = (SH, dt2) ∧ InvC dt2 ∧ Fr [44, 45, 46, 47, 48, 49, 50, 51, 52, 53, 54, 55, 56] dt dt2 ∧ ((r = none ∧ True))) := by
  have hF : Fr [44, 45, 46, 47, 48, 49, 50, 51, 52, 53, 54, 55, 56] dt dt := Fr_refl
  refine go_toq PM51 (k := 3) (pc' := 5) (L' := [some (.inr (.inr (some 43)))]) (st' := [.inl 0, .inr (.inr (some 44))]) (w' := (SH, dt)) rfl ?_
  refine go_callq PM51 PM261 (Q' := _) rfl rfl rfl rfl (sp_J7_fill_53178_44 L xs sio (d + 0) dt hI  0 ⟨by decide, by decide⟩ ) ?_
  rintro _ _ ⟨dt2, rfl, hI3, hF4, h1⟩
  refine ⟨rfl, ?_⟩
  have hF5 : Fr [44, 45, 46, 47, 48, 49, 50, 51, 52, 53, 54, 55, 56] dt dt2 := Fr_tr hF hF4 (by decide)
  rcases h1 with ⟨rfl, h1⟩
  refine go_toq PM51 (k := 3) (pc' := 13) (L' := [some (.inr (.inr (some 43)))]) (st' := [.inl (-1), .inr (.inr (some 45))]) (w' := (SH, dt2)) rfl ?_
  refine go_callq PM51 PM261 (Q' := _) rfl rfl rfl rfl (sp_J7_fill_53178_45 L xs sio (d + 0) dt2 hI3  (-1) ⟨by decide, by decide⟩ ) ?_
  rintro _ _ ⟨dt7, rfl, hI8, hF9, h6⟩
  refine ⟨rfl, ?_⟩
  have hF10 : Fr [44, 45, 46, 47, 48, 49, 50, 51, 52, 53, 54, 55, 56] dt dt7 := Fr_tr hF5 hF9 (by decide)
  rcases h6 with ⟨rfl, h6⟩
  refine go_toq PM51 (k := 3) (pc' := 21) (L' := [some (.inr (.inr (some 43)))]) (st' := [.inl 0, .inr (.inr (some 46))]) (w' := (SH, dt7)) rfl ?_
  refine go_callq PM51 PM261 (Q' := _) rfl rfl rfl rfl (sp_J7_fill_53178_46 L xs sio (d + 0) dt7 hI8  0 ⟨by decide, by decide⟩ ) ?_
  rintro _ _ ⟨dt12, rfl, hI13, hF14, h11⟩
  refine ⟨rfl, ?_⟩
  have hF15 : Fr [44, 45, 46, 47, 48, 49, 50, 51, 52, 53, 54, 55, 56] dt dt12 := Fr_tr hF10 hF14 (by decide)
  rcases h11 with ⟨rfl, h11⟩
  refine go_toq PM51 (k := 3) (pc' := 29) (L' := [some (.inr (.inr (some 43)))]) (st' := [.inl (-1), .inr (.inr (some 47))]) (w' := (SH, dt12)) rfl ?_
  refine go_callq PM51 PM261 (Q' := _) rfl rfl rfl rfl (sp_J7_fill_53178_47 L xs sio (d + 0) dt12 hI13  (-1) ⟨by decide, by decide⟩ ) ?_
  rintro _ _ ⟨dt17, rfl, hI18, hF19, h16⟩
  refine ⟨rfl, ?_⟩
  have hF20 : Fr [44, 45, 46, 47, 48, 49, 50, 51, 52, 53, 54, 55, 56] dt dt17 := Fr_tr hF15 hF19 (by decide)
  rcases h16 with ⟨rfl, h16⟩
  refine go_toq PM51 (k := 3) (pc' := 37) (L' := [some (.inr (.inr (some 43)))]) (st' := [.inl (-1), .inr (.inr (some 48))]) (w' := (SH, dt17)) rfl ?_
  refine go_callq PM51 PM261 (Q' := _) rfl rfl rfl rfl (sp_J7_fill_53178_48 L xs sio (d + 0) dt17 hI18  (-1) ⟨by decide, by decide⟩ ) ?_
  rintro _ _ ⟨dt22, rfl, hI23, hF24, h21⟩
  refine ⟨rfl, ?_⟩
  have hF25 : Fr [44, 45, 46, 47, 48, 49, 50, 51, 52, 53, 54, 55, 56] dt dt22 := Fr_tr hF20 hF24 (by decide)
  rcases h21 with ⟨rfl, h21⟩
  refine go_toq PM51 (k := 3) (pc' := 45) (L' := [some (.inr (.inr (some 43)))]) (st' := [.inl (-1), .inr (.inr (some 49))]) (w' := (SH, dt22)) rfl ?_
  refine go_callq PM51 PM261 (Q' := _) rfl rfl rfl rfl (sp_J7_fill_53178_49 L xs sio (d + 0) dt22 hI23  (-1) ⟨by decide, by decide⟩ ) ?_
  rintro _ _ ⟨dt27, rfl, hI28, hF29, h26⟩
  refine ⟨rfl, ?_⟩
  have hF30 : Fr [44, 45, 46, 47, 48, 49, 50, 51, 52, 53, 54, 55, 56] dt dt27 := Fr_tr hF25 hF29 (by decide)
  rcases h26 with ⟨rfl, h26⟩
  refine go_toq PM51 (k := 3) (pc' := 53) (L' := [some (.inr (.inr (some 43)))]) (st' := [.inl 0, .inr (.inr (some 50))]) (w' := (SH, dt27)) rfl ?_
  refine go_callq PM51 PM261 (Q' := _) rfl rfl rfl rfl (sp_J7_fill_53178_50 L xs sio (d + 0) dt27 hI28  0 ⟨by decide, by decide⟩ ) ?_
  rintro _ _ ⟨dt32, rfl, hI33, hF34, h31⟩
  refine ⟨rfl, ?_⟩
  have hF35 : Fr [44, 45, 46, 47, 48, 49, 50, 51, 52, 53, 54, 55, 56] dt dt32 := Fr_tr hF30 hF34 (by decide)
  rcases h31 with ⟨rfl, h31⟩
  refine go_toq PM51 (k := 3) (pc' := 61) (L' := [some (.inr (.inr (some 43)))]) (st' := [.inl (-1), .inr (.inr (some 51))]) (w' := (SH, dt32)) rfl ?_
  refine go_callq PM51 PM261 (Q' := _) rfl rfl rfl rfl (sp_J7_fill_53178_51 L xs sio (d + 0) dt32 hI33  (-1) ⟨by decide, by decide⟩ ) ?_
  rintro _ _ ⟨dt37, rfl, hI38, hF39, h36⟩
  refine ⟨rfl, ?_⟩
  have hF40 : Fr [44, 45, 46, 47, 48, 49, 50, 51, 52, 53, 54, 55, 56] dt dt37 := Fr_tr hF35 hF39 (by decide)
  rcases h36 with ⟨rfl, h36⟩
  refine go_toq PM51 (k := 3) (pc' := 69) (L' := [some (.inr (.inr (some 43)))]) (st' := [.inl (-1), .inr (.inr (some 52))]) (w' := (SH, dt37)) rfl ?_
  refine go_callq PM51 PM261 (Q' := _) rfl rfl rfl rfl (sp_J7_fill_53178_52 L xs sio (d + 0) dt37 hI38  (-1) ⟨by decide, by decide⟩ ) ?_
  rintro _ _ ⟨dt42, rfl, hI43, hF44, h41⟩
  refine ⟨rfl, ?_⟩
  have hF45 : Fr [44, 45, 46, 47, 48, 49, 50, 51, 52, 53, 54, 55, 56] dt dt42 := Fr_tr hF40 hF44 (by decide)
  rcases h41 with ⟨rfl, h41⟩
  refine go_toq PM51 (k := 3) (pc' := 77) (L' := [some (.inr (.inr (some 43)))]) (st' := [.inl (-1), .inr (.inr (some 53))]) (w' := (SH, dt42)) rfl ?_
  refine go_callq PM51 PM261 (Q' := _) rfl rfl rfl rfl (sp_J7_fill_53178_53 L xs sio (d + 0) dt42 hI43  (-1) ⟨by decide, by decide⟩ ) ?_
  rintro _ _ ⟨dt47, rfl, hI48, hF49, h46⟩
  refine ⟨rfl, ?_⟩
  have hF50 : Fr [44, 45, 46, 47, 48, 49, 50, 51, 52, 53, 54, 55, 56] dt dt47 := Fr_tr hF45 hF49 (by decide)
  rcases h46 with ⟨rfl, h46⟩
  refine go_toq PM51 (k := 3) (pc' := 85) (L' := [some (.inr (.inr (some 43)))]) (st' := [.inl (-1), .inr (.inr (some 54))]) (w' := (SH, dt47)) rfl ?_
  refine go_callq PM51 PM261 (Q' := _) rfl rfl rfl rfl (sp_J7_fill_53178_54 L xs sio (d + 0) dt47 hI48  (-1) ⟨by decide, by decide⟩ ) ?_
  rintro _ _ ⟨dt52, rfl, hI53, hF54, h51⟩
  refine ⟨rfl, ?_⟩
  have hF55 : Fr [44, 45, 46, 47, 48, 49, 50, 51, 52, 53, 54, 55, 56] dt dt52 := Fr_tr hF50 hF54 (by decide)
  rcases h51 with ⟨rfl, h51⟩
  refine go_toq PM51 (k := 3) (pc' := 93) (L' := [some (.inr (.inr (some 43)))]) (st' := [.inl 0, .inr (.inr (some 55))]) (w' := (SH, dt52)) rfl ?_
  refine go_callq PM51 PM261 (Q' := _) rfl rfl rfl rfl (sp_J7_fill_53178_55 L xs sio (d + 0) dt52 hI53  0 ⟨by decide, by decide⟩ ) ?_
  rintro _ _ ⟨dt57, rfl, hI58, hF59, h56⟩
  refine ⟨rfl, ?_⟩
  have hF60 : Fr [44, 45, 46, 47, 48, 49, 50, 51, 52, 53, 54, 55, 56] dt dt57 := Fr_tr hF55 hF59 (by decide)
  rcases h56 with ⟨rfl, h56⟩
  refine go_toq PM51 (k := 3) (pc' := 101) (L' := [some (.inr (.inr (some 43)))]) (st' := [.inl (-1), .inr (.inr (some 56))]) (w' := (SH, dt57)) rfl ?_
  refine go_callq PM51 PM261 (Q' := _) rfl rfl rfl rfl (sp_J7_fill_53178_56 L xs sio (d + 0) dt57 hI58  (-1) ⟨by decide, by decide⟩ ) ?_
  rintro _ _ ⟨dt62, rfl, hI63, hF64, h61⟩
  refine ⟨rfl, ?_⟩
  have hF65 : Fr [44, 45, 46, 47, 48, 49, 50, 51, 52, 53, 54, 55, 56] dt dt62 := Fr_tr hF60 hF64 (by decide)
  rcases h61 with ⟨rfl, h61⟩
  refine go_retq PM51 (k := 0) (r := none) (w1 := (SH, dt62)) rfl ?_
  exact ⟨dt62, rfl, hI63, hF65, ⟨rfl, trivial⟩⟩
