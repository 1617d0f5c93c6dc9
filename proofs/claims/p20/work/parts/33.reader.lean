theorem sp_X1_hasRoom (L : Nat) (xs : Nat → Int32) (sio : Option Nat) (d : Nat) (dt : Nat → Nat → Int) (hI : InvC dt)  (p1 : Int) (h_p1 : 0 ≤ p1 ∧ p1 ≤ 500)  : GO (am_XX L xs sio) (d) 6 0 [some (.inr (.inr (some 35))), some (.inl p1)] [] (SH, dt) (fun r w2 => w2 = (SH, dt) ∧ ((r = some (.inl 1) ∧ (dt 35 1 + p1 ≤ 500)) ∨ (r = some (.inl 0) ∧ (¬ (dt 35 1 + p1 ≤ 500))))) := by
  have r1 : 0 ≤ dt 35 1 ∧ dt 35 1 ≤ 500 := InvC_get hI 35 1 rfl rfl
  refine go_ifq PM6 (k := 5) (p1 := 16) (p2 := 12) (L' := [some (.inr (.inr (some 35))), some (.inl p1)]) (st' := []) (w' := (SH, dt)) rfl (c_gt (a := (dt 35 1) + p1) (b := 500) ⟨by omega, by omega⟩ ⟨by decide, by decide⟩) (fun c3 => ?_) (fun c3 => ?_)
  · skip
    refine go_retq PM6 (k := 1) (r := some (.inl 0)) (w1 := (SH, dt)) rfl ?_
    exact ⟨rfl, (Or.inr ⟨rfl, by first | exact True.intro | with_reducible assumption | rfl | omega | trivial⟩)⟩
  · skip
    refine go_retq PM6 (k := 2) (r := some (.inl 1)) (w1 := (SH, dt)) rfl ?_
    exact ⟨rfl, (Or.inl ⟨rfl, by first | exact True.intro | with_reducible assumption | rfl | omega | trivial⟩)⟩
