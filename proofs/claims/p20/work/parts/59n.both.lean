/-! two things are said of one run -/
theorem GO.both {X : am_X} {d mi pc : Nat} {L : am_L} {st : List AV} {w : am_W} {Q Q' : Option AV → am_W → Prop} (g : GO X d mi pc L st w Q) (h : GO X d mi pc L st w Q') : GO X d mi pc L st w (fun r w' => Q r w' ∧ Q' r w') := by
  obtain ⟨n, r, w1, e, q⟩ := g
  obtain ⟨m, r', w2, e', q'⟩ := h
  have a := am_mono e m
  have b := am_mono e' n
  rw [Nat.add_comm] at b
  rw [a] at b
  cases b
  exact ⟨n, r, w1, e, q, q'⟩
