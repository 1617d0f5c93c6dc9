/-! the law's two objects are made -/
section CTR
variable {X : am_X} {d mi pc : Nat} {L : am_L} {st : List AV} {w : am_W} {Q : Option AV → am_W → Prop}
theorem go_to2 {k k2 pc' : Nat} {L' : am_L} {st' : List AV} {w' : am_W} (h : ∀ n, am_ex am_P am_F X (n + k) d mi pc L st w = am_ex am_P am_F X (n + k2) d mi pc' L' st' w') (g : GO X d mi pc' L' st' w' Q) : GO X d mi pc L st w Q := by
  obtain ⟨n, r, w1, h1, h2⟩ := g
  exact ⟨n + k, r, w1, (h n).trans (am_mono h1 k2), h2⟩
theorem am_z_id {dt : Nat → Nat → Int} {k : Nat} (h : ∀ b, dt k b = 0) : am_z dt k = dt := by
  funext a b
  unfold am_z
  by_cases e : a = k
  · rw [if_pos e, e, h b]
  · rw [if_neg e]
theorem go_new {k nx ci : Nat} {tl : List Nat} {cv : Int} {fs : List (Option (Option Nat))} (hf : am_at mi pc = some (.new k, nx, ci :: tl, cv)) (hF : am_F ci = some fs) (hv : am_vw w L st = true) (hz : ∀ b, w.2 w.1.length b = 0) (g : GO X d mi nx L (.inr (.inr (some w.1.length)) :: st) (w.1 ++ [.inr (ci, fs)], w.2) Q) : GO X d mi pc L st w Q := by
  obtain ⟨mt, h1, h2⟩ := am_at_ex hf
  obtain ⟨n, r, w1, h3, h4⟩ := g
  refine ⟨n + 1, r, w1, ?_, h4⟩
  unfold am_ex
  rw [h1]
  dsimp only
  rw [h2]
  dsimp only
  unfold am_new
  dsimp only [List.headD]
  rw [hF]
  dsimp only
  rw [hv]
  dsimp only [cond_true]
  rw [am_z_id hz]
  exact h3
theorem go_newa {k : _} {nx ty : Nat} {tl : List Nat} {cv n : Int} {rest : List AV} (hf : am_at mi pc = some (.newarray k, nx, ty :: tl, cv)) (hv : (am_vw w L rest && decide (0 ≤ n ∧ n < 100000)) = true) (hz : ∀ b, w.2 w.1.length b = 0) (g : GO X d mi nx L (.inr (.inr (some w.1.length)) :: rest) (w.1 ++ [.inl (ty, n.toNat)], w.2) Q) : GO X d mi pc L (.inl n :: rest) w Q := by
  obtain ⟨mt, h1, h2⟩ := am_at_ex hf
  obtain ⟨m, r, w1, h3, h4⟩ := g
  refine ⟨m + 1, r, w1, ?_, h4⟩
  unfold am_ex
  rw [h1]
  dsimp only
  rw [h2]
  dsimp only
  unfold am_new
  dsimp only [List.headD]
  rw [hv]
  dsimp only [cond_true]
  rw [am_z_id hz]
  exact h3
theorem go_calln {i : Instr} {nx mj pl : Nat} {tl : List Nat} {cv : Int} {mu : am_M} {virt : Bool} {Q' : Option AV → am_W → Prop} (hf : am_at mi pc = some (i, nx, mj :: pl :: tl, cv)) (hv : am_isv i = some virt) (h9 : Nat.blt mj 9000 = true) (hP : am_P mj = some mu)
    (hb : (Nat.ble mu.2.1 st.length && (Nat.ble ((st.drop mu.2.1).map am_cat).sum 8 && ((st.take mu.2.1).all (fun v => Nat.beq (am_cat v) 1) && (!virt || am_rcv w (tl.headD 99) st[mu.2.1 - 1]?)))) = true)
    (hw : am_vw w L (st.drop mu.2.1) = true)
    (hs : GO X d mj 0 (am_ent (st.take mu.2.1).reverse mu.2.2.1) [] w Q') (g : ∀ r w', Q' r w' → GO X (d + 1) mi nx L (r.toList ++ st.drop mu.2.1) w' Q) : GO X (d + 1) mi pc L st w Q := by
  obtain ⟨mt, h1, h2⟩ := am_at_ex hf
  obtain ⟨n1, r1, w1, h3, h4⟩ := hs
  obtain ⟨n2, r2, w2, h5, h6⟩ := g _ _ h4
  have a1 : am_ex am_P am_F X (n1 + n2) d mj 0 (am_ent (st.take mu.2.1).reverse mu.2.2.1) [] w = some (r1, w1) := am_mono h3 n2
  have a2 : am_ex am_P am_F X (n1 + n2) (d + 1) mi nx L (r1.toList ++ st.drop mu.2.1) w1 = some (r2, w2) := by
    rw [Nat.add_comm]; exact am_mono h5 n1
  have key : ∀ v, virt = v → am_call am_P w (d + 1) (mj :: pl :: tl) L st v (fun d' mj L0 => am_ex am_P am_F X (n1 + n2) d' mj 0 L0 [] w) (fun st' w' => am_ex am_P am_F X (n1 + n2) (d + 1) mi nx L st' w') = some (r2, w2) := by
    intro v hv2
    subst hv2
    unfold am_call
    dsimp only
    rw [hP]
    dsimp only
    rw [hb]
    dsimp only [cond_true]
    rw [a1]
    dsimp only
    rw [hw, Bool.or_true]
    exact a2
  refine ⟨n1 + n2 + 1, r2, w2, ?_, h6⟩
  unfold am_ex
  rw [h1]
  dsimp only
  rw [h2]
  dsimp only
  unfold am_isv at hv
  split at hv
  · exact key _ (Option.some.inj hv).symm
  · dsimp only
    rw [show Nat.blt ((mj :: pl :: tl).headD 0) 9000 = true from h9]
    exact key _ (Option.some.inj hv).symm
  · dsimp only
    rw [show Nat.blt ((mj :: pl :: tl).headD 0) 9000 = true from h9]
    exact key _ (Option.some.inj hv).symm
  · cases hv
end CTR
