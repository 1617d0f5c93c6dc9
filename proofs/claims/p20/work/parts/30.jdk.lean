theorem sp_J9_max_7cf53 (L : Nat) (xs : Nat → Int32) (sio : Option Nat) (d : Nat) (dt : Nat → Nat → Int) (hI : InvC dt)  (a : Int) (h_a : (-2147483648) ≤ a ∧ a ≤ 2147483647) (b : Int) (h_b : (-2147483648) ≤ b ∧ b ≤ 2147483647)  : GO (am_XX L xs sio) (d) 265 0 [some (.inl a), some (.inl b)] [] (SH, dt) (fun r w2 => w2 = (SH, dt) ∧ ((∃ v : Int, r = some (.inl v) ∧ ((-2147483648) ≤ v ∧ v ≤ 2147483647) ∧ (a ≤ v ∧ b ≤ v ∧ (v = a ∨ v = b))))) := by
  refine go_ifq PM265 (k := 2) (p1 := 9) (p2 := 5) (L' := [some (.inl a), some (.inl b)]) (st' := []) (w' := (SH, dt)) rfl (c_lt (a := a) (b := b) (by first | exact bnd h_a (by decide) (by decide) | exact ⟨by omega, by omega⟩) (by first | exact bnd h_b (by decide) (by decide) | exact ⟨by omega, by omega⟩)) (fun c1 => ?_) (fun c1 => ?_)
  · skip
    refine go_retq PM265 (k := 1) (r := some (.inl b)) (w1 := (SH, dt)) rfl ?_
    exact ⟨rfl, ⟨_, rfl, (by first | exact bnd h_b (by decide) (by decide) | exact ⟨by omega, by omega⟩), by first | exact True.intro | rfl | omega | trivial⟩⟩
  · skip
    refine go_retq PM265 (k := 2) (r := some (.inl a)) (w1 := (SH, dt)) rfl ?_
    exact ⟨rfl, ⟨_, rfl, (by first | exact bnd h_a (by decide) (by decide) | exact ⟨by omega, by omega⟩), by first | exact True.intro | rfl | omega | trivial⟩⟩
theorem sp_J9_min_7cf53 (L : Nat) (xs : Nat → Int32) (sio : Option Nat) (d : Nat) (dt : Nat → Nat → Int) (hI : InvC dt)  (a : Int) (h_a : (-2147483648) ≤ a ∧ a ≤ 2147483647) (b : Int) (h_b : (-2147483648) ≤ b ∧ b ≤ 2147483647)  : GO (am_XX L xs sio) (d) 266 0 [some (.inl a), some (.inl b)] [] (SH, dt) (fun r w2 => w2 = (SH, dt) ∧ ((∃ v : Int, r = some (.inl v) ∧ ((-2147483648) ≤ v ∧ v ≤ 2147483647) ∧ (v ≤ a ∧ v ≤ b ∧ (v = a ∨ v = b))))) := by
  refine go_ifq PM266 (k := 2) (p1 := 9) (p2 := 5) (L' := [some (.inl a), some (.inl b)]) (st' := []) (w' := (SH, dt)) rfl (c_gt (a := a) (b := b) (by first | exact bnd h_a (by decide) (by decide) | exact ⟨by omega, by omega⟩) (by first | exact bnd h_b (by decide) (by decide) | exact ⟨by omega, by omega⟩)) (fun c1 => ?_) (fun c1 => ?_)
  · skip
    refine go_retq PM266 (k := 1) (r := some (.inl b)) (w1 := (SH, dt)) rfl ?_
    exact ⟨rfl, ⟨_, rfl, (by first | exact bnd h_b (by decide) (by decide) | exact ⟨by omega, by omega⟩), by first | exact True.intro | rfl | omega | trivial⟩⟩
  · skip
    refine go_retq PM266 (k := 2) (r := some (.inl a)) (w1 := (SH, dt)) rfl ?_
    exact ⟨rfl, ⟨_, rfl, (by first | exact bnd h_a (by decide) (by decide) | exact ⟨by omega, by omega⟩), by first | exact True.intro | rfl | omega | trivial⟩⟩
theorem sp_J0_coder_7d493_1000 (L : Nat) (xs : Nat → Int32) (sio : Option Nat) (d : Nat) (dt : Nat → Nat → Int) (hI : InvC dt)    : GO (am_XX L xs sio) (d) 253 0 [some (.inr (.inr (some 1000)))] [] (SH, dt) (fun r w2 => w2 = (SH, dt) ∧ ((r = some (.inl 0) ∧ True))) := by
  refine go_retq PM253 (k := 5) (r := some (.inl 0)) (w1 := (SH, dt)) rfl ?_
  exact ⟨rfl, ⟨rfl, trivial⟩⟩
theorem sp_J0_length_8abf5_1000 (L : Nat) (xs : Nat → Int32) (sio : Option Nat) (d : Nat) (dt : Nat → Nat → Int) (hI : InvC dt)    : GO (am_XX L xs sio) (d + 1) 249 0 [some (.inr (.inr (some 1000)))] [] (SH, dt) (fun r w2 => w2 = (SH, dt) ∧ ((r = some (.inl 45) ∧ True))) := by
  refine go_toq PM249 (k := 4) (pc' := 6) (L' := [some (.inr (.inr (some 1000)))]) (st' := [.inr (.inr (some 1000)), .inl 45]) (w' := (SH, dt)) rfl ?_
  refine go_callq PM249 PM253 (Q' := _) rfl rfl rfl rfl (sp_J0_coder_7d493_1000 L xs sio (d + 0) dt hI   ) ?_
  rintro _ _ ⟨rfl, h1⟩
  refine ⟨rfl, ?_⟩
  rcases h1 with ⟨rfl, h1⟩
  refine go_smpq PM249 (L' := [some (.inr (.inr (some 1000)))]) (st' := [.inl 45]) (w' := (SH, dt)) rfl rfl (s_bshr (v := 45) (by decide)) ?_
  refine go_retq PM249 (k := 0) (r := some (.inl 45)) (w1 := (SH, dt)) rfl ?_
  exact ⟨rfl, ⟨rfl, trivial⟩⟩
theorem sp_J0_isLatin1_aae02_1000 (L : Nat) (xs : Nat → Int32) (sio : Option Nat) (d : Nat) (dt : Nat → Nat → Int) (hI : InvC dt)    : GO (am_XX L xs sio) (d) 254 0 [some (.inr (.inr (some 1000)))] [] (SH, dt) (fun r w2 => w2 = (SH, dt) ∧ ((r = some (.inl 1) ∧ True))) := by
  refine go_retq PM254 (k := 7) (r := some (.inl 1)) (w1 := (SH, dt)) rfl ?_
  exact ⟨rfl, ⟨rfl, trivial⟩⟩
theorem sp_J0_coder_7d493_1001 (L : Nat) (xs : Nat → Int32) (sio : Option Nat) (d : Nat) (dt : Nat → Nat → Int) (hI : InvC dt)    : GO (am_XX L xs sio) (d) 253 0 [some (.inr (.inr (some 1001)))] [] (SH, dt) (fun r w2 => w2 = (SH, dt) ∧ ((r = some (.inl 0) ∧ True))) := by
  refine go_retq PM253 (k := 5) (r := some (.inl 0)) (w1 := (SH, dt)) rfl ?_
  exact ⟨rfl, ⟨rfl, trivial⟩⟩
theorem sp_J0_length_8abf5_1001 (L : Nat) (xs : Nat → Int32) (sio : Option Nat) (d : Nat) (dt : Nat → Nat → Int) (hI : InvC dt)    : GO (am_XX L xs sio) (d + 1) 249 0 [some (.inr (.inr (some 1001)))] [] (SH, dt) (fun r w2 => w2 = (SH, dt) ∧ ((r = some (.inl 62) ∧ True))) := by
  refine go_toq PM249 (k := 4) (pc' := 6) (L' := [some (.inr (.inr (some 1001)))]) (st' := [.inr (.inr (some 1001)), .inl 62]) (w' := (SH, dt)) rfl ?_
  refine go_callq PM249 PM253 (Q' := _) rfl rfl rfl rfl (sp_J0_coder_7d493_1001 L xs sio (d + 0) dt hI   ) ?_
  rintro _ _ ⟨rfl, h1⟩
  refine ⟨rfl, ?_⟩
  rcases h1 with ⟨rfl, h1⟩
  refine go_smpq PM249 (L' := [some (.inr (.inr (some 1001)))]) (st' := [.inl 62]) (w' := (SH, dt)) rfl rfl (s_bshr (v := 62) (by decide)) ?_
  refine go_retq PM249 (k := 0) (r := some (.inl 62)) (w1 := (SH, dt)) rfl ?_
  exact ⟨rfl, ⟨rfl, trivial⟩⟩
theorem sp_J0_isLatin1_aae02_1001 (L : Nat) (xs : Nat → Int32) (sio : Option Nat) (d : Nat) (dt : Nat → Nat → Int) (hI : InvC dt)    : GO (am_XX L xs sio) (d) 254 0 [some (.inr (.inr (some 1001)))] [] (SH, dt) (fun r w2 => w2 = (SH, dt) ∧ ((r = some (.inl 1) ∧ True))) := by
  refine go_retq PM254 (k := 7) (r := some (.inl 1)) (w1 := (SH, dt)) rfl ?_
  exact ⟨rfl, ⟨rfl, trivial⟩⟩
theorem sp_J0_coder_7d493_1002 (L : Nat) (xs : Nat → Int32) (sio : Option Nat) (d : Nat) (dt : Nat → Nat → Int) (hI : InvC dt)    : GO (am_XX L xs sio) (d) 253 0 [some (.inr (.inr (some 1002)))] [] (SH, dt) (fun r w2 => w2 = (SH, dt) ∧ ((r = some (.inl 0) ∧ True))) := by
  refine go_retq PM253 (k := 5) (r := some (.inl 0)) (w1 := (SH, dt)) rfl ?_
  exact ⟨rfl, ⟨rfl, trivial⟩⟩
theorem sp_J0_length_8abf5_1002 (L : Nat) (xs : Nat → Int32) (sio : Option Nat) (d : Nat) (dt : Nat → Nat → Int) (hI : InvC dt)    : GO (am_XX L xs sio) (d + 1) 249 0 [some (.inr (.inr (some 1002)))] [] (SH, dt) (fun r w2 => w2 = (SH, dt) ∧ ((r = some (.inl 10) ∧ True))) := by
  refine go_toq PM249 (k := 4) (pc' := 6) (L' := [some (.inr (.inr (some 1002)))]) (st' := [.inr (.inr (some 1002)), .inl 10]) (w' := (SH, dt)) rfl ?_
  refine go_callq PM249 PM253 (Q' := _) rfl rfl rfl rfl (sp_J0_coder_7d493_1002 L xs sio (d + 0) dt hI   ) ?_
  rintro _ _ ⟨rfl, h1⟩
  refine ⟨rfl, ?_⟩
  rcases h1 with ⟨rfl, h1⟩
  refine go_smpq PM249 (L' := [some (.inr (.inr (some 1002)))]) (st' := [.inl 10]) (w' := (SH, dt)) rfl rfl (s_bshr (v := 10) (by decide)) ?_
  refine go_retq PM249 (k := 0) (r := some (.inl 10)) (w1 := (SH, dt)) rfl ?_
  exact ⟨rfl, ⟨rfl, trivial⟩⟩
theorem sp_J0_isLatin1_aae02_1002 (L : Nat) (xs : Nat → Int32) (sio : Option Nat) (d : Nat) (dt : Nat → Nat → Int) (hI : InvC dt)    : GO (am_XX L xs sio) (d) 254 0 [some (.inr (.inr (some 1002)))] [] (SH, dt) (fun r w2 => w2 = (SH, dt) ∧ ((r = some (.inl 1) ∧ True))) := by
  refine go_retq PM254 (k := 7) (r := some (.inl 1)) (w1 := (SH, dt)) rfl ?_
  exact ⟨rfl, ⟨rfl, trivial⟩⟩
theorem sp_J3_checkIndex_8e157 (L : Nat) (xs : Nat → Int32) (sio : Option Nat) (d : Nat) (dt : Nat → Nat → Int) (hI : InvC dt)  (i : Int) (h_i : (-2147483648) ≤ i ∧ i ≤ 2147483647) (n : Int) (h_n : (-2147483648) ≤ n ∧ n ≤ 2147483647) (h_p0 : 0 ≤ i ∧ i < n) : GO (am_XX L xs sio) (d) 260 0 [some (.inl i), some (.inl n), some (.inr (.inr sio))] [] (SH, dt) (fun r w2 => w2 = (SH, dt) ∧ ((∃ v : Int, r = some (.inl v) ∧ ((-2147483648) ≤ v ∧ v ≤ 2147483647) ∧ True))) := by
  refine go_ifq PM260 (k := 1) (p1 := 9) (p2 := 4) (L' := [some (.inl i), some (.inl n), some (.inr (.inr sio))]) (st' := []) (w' := (SH, dt)) rfl (z_lt (a := i) (by first | exact bnd h_i (by decide) (by decide) | exact ⟨by omega, by omega⟩)) (fun c1 => ?_) (fun c1 => ?_)
  · skip
    exfalso; omega
  · skip
    refine go_ifq PM260 (k := 2) (p1 := 16) (p2 := 9) (L' := [some (.inl i), some (.inl n), some (.inr (.inr sio))]) (st' := []) (w' := (SH, dt)) rfl (c_lt (a := i) (b := n) (by first | exact bnd h_i (by decide) (by decide) | exact ⟨by omega, by omega⟩) (by first | exact bnd h_n (by decide) (by decide) | exact ⟨by omega, by omega⟩)) (fun c2 => ?_) (fun c2 => ?_)
    · skip
      refine go_retq PM260 (k := 1) (r := some (.inl i)) (w1 := (SH, dt)) rfl ?_
      exact ⟨rfl, ⟨_, rfl, (by first | exact bnd h_i (by decide) (by decide) | exact ⟨by omega, by omega⟩), trivial⟩⟩
    · skip
      exfalso; omega
theorem sp_J0_checkIndex_df160 (L : Nat) (xs : Nat → Int32) (sio : Option Nat) (d : Nat) (dt : Nat → Nat → Int) (hI : InvC dt)  (i : Int) (h_i : (-2147483648) ≤ i ∧ i ≤ 2147483647) (n : Int) (h_n : (-2147483648) ≤ n ∧ n ≤ 2147483647) (h_p0 : 0 ≤ i ∧ i < n) : GO (am_XX L xs sio) (d + 1) 255 0 [some (.inl i), some (.inl n)] [] (SH, dt) (fun r w2 => w2 = (SH, dt) ∧ ((r = none ∧ True))) := by
  refine go_toq PM255 (k := 3) (pc' := 5) (L' := [some (.inl i), some (.inl n)]) (st' := [.inr (.inr sio), .inl n, .inl i]) (w' := (SH, dt)) rfl ?_
  refine go_callq PM255 PM260 (Q' := _) rfl rfl rfl rfl (sp_J3_checkIndex_8e157 L xs sio (d + 0) dt hI  i (by first | exact bnd h_i (by decide) (by decide) | exact ⟨by omega, by omega⟩) n (by first | exact bnd h_n (by decide) (by decide) | exact ⟨by omega, by omega⟩) (by first | exact True.intro | rfl | omega | trivial)) ?_
  rintro _ _ ⟨rfl, h1⟩
  refine ⟨rfl, ?_⟩
  rcases h1 with ⟨v_h1, rfl, h1r, h1⟩
  refine go_retq PM255 (k := 1) (r := none) (w1 := (SH, dt)) rfl ?_
  exact ⟨rfl, ⟨rfl, trivial⟩⟩
