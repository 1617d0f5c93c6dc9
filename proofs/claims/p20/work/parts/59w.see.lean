set_option maxRecDepth 20000 in
theorem sp_X6_see_f (L : Nat) (xs : Nat → Int32) (sio : Option Nat) (d : Nat) (dt : Nat → Nat → Int) (hI : InvC dt)  (p1 : Int) (h_p1 : 0 ≤ p1 ∧ p1 ≤ 501)  : GO (am_XX L xs sio) (d) 153 0 [some (.inr (.inr (some 79))), some (.inl p1)] [] (SH, dt) (fun r w2 => w2 = (SH, dt) ∧ ((∃ v : Int, r = some (.inl v) ∧ (0 ≤ v ∧ v ≤ 255) ∧ (p1 < dt 79 12) ∧ (v = (mB (dt 85) (dt 79 12)) p1.toNat)) ∨ (r = some (.inl (-1)) ∧ (dt 79 12 ≤ p1)))) := by
  have r1 : 0 ≤ dt 79 12 ∧ dt 79 12 ≤ 500 := InvC_get hI 79 12 rfl rfl
  refine go_ifq PM153 (k := 3) (p1 := 17) (p2 := 8) (L' := [some (.inr (.inr (some 79))), some (.inl p1)]) (st' := []) (w' := (SH, dt)) rfl (c_ge (a := p1) (b := dt 79 12) (by first | exact bnd h_p1 (by decide) (by decide) | exact ⟨by omega, by omega⟩) (by first | exact bnd r1 (by decide) (by decide) | exact ⟨by omega, by omega⟩)) (fun c2 => ?_) (fun c2 => ?_)
  · skip
    refine go_retq PM153 (k := 1) (r := some (.inl (-1))) (w1 := (SH, dt)) rfl ?_
    first | exact ⟨rfl, (Or.inl ⟨_, rfl, ⟨by decide, by decide⟩, ⟨by first | exact True.intro | with_reducible assumption | rfl | omega | trivial, by exact (mB_in (by omega) (by omega)).symm⟩⟩)⟩ | exact ⟨rfl, (Or.inr ⟨rfl, by first | exact True.intro | with_reducible assumption | rfl | omega | trivial⟩)⟩
  · skip
    refine go_toq PM153 (k := 3) (pc' := 13) (L' := [some (.inr (.inr (some 79))), some (.inl p1)]) (st' := [.inl p1, .inr (.inr (some 85))]) (w' := (SH, dt)) rfl ?_
    have r3 : 0 ≤ dt 85 (p1).toNat ∧ dt 85 (p1).toNat ≤ 255 := InvC_get hI 85 (p1).toNat rfl rfl
    refine go_smpq PM153 (L' := [some (.inr (.inr (some 79))), some (.inl p1)]) (st' := [.inl (dt 85 (p1).toNat)]) (w' := (SH, dt)) rfl rfl (s_iald (n := 500) (f := dt 85) rfl (by first | exact bndc h_p1 c2 (by decide) (by decide) | exact bndx h_p1 (by decide) (by decide) | exact ⟨by omega, by omega⟩)) ?_
    refine go_retq PM153 (k := 1) (r := some (.inl (dt 85 (p1).toNat))) (w1 := (SH, dt)) rfl ?_
    exact ⟨rfl, (Or.inl ⟨_, rfl, (by first | exact bnd r3 (by decide) (by decide) | exact ⟨by omega, by omega⟩), ⟨by first | exact True.intro | with_reducible assumption | rfl | omega | trivial, by exact (mB_in (by omega) (by omega)).symm⟩⟩)⟩
