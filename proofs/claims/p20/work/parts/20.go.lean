/-! runs, by rows: GO: there is a run from here, and it ends so -/
theorem am_call_mono {P : Nat → Option am_M} {w : am_W} {d : Nat} {tg : List Nat} {L : am_L} {st : List AV} {virt : Bool} {run run' : Nat → Nat → am_L → am_R} {go go' : List AV → am_W → am_R} {z : Option AV × am_W} (h : am_call P w d tg L st virt run go = some z) (h1 : ∀ a b c y, run a b c = some y → run' a b c = some y) (h2 : ∀ a b y, go a b = some y → go' a b = some y) : am_call P w d tg L st virt run' go' = some z := by
  unfold am_call at h ⊢
  split at h
  · split at h
    · rename_i mu d' hP
      rcases hb : (Nat.ble mu.2.1 st.length && (Nat.ble ((st.drop mu.2.1).map am_cat).sum 8 && ((st.take mu.2.1).all (fun v => Nat.beq (am_cat v) 1) && (!virt || am_rcv w (List.headD ‹List Nat› 99) st[mu.2.1 - 1]?)))) with _ | _
      · rw [hb] at h; cases h
      · rw [hb] at h
        simp only [hb, cond_true] at h ⊢
        split at h
        · cases h
        · rename_i r' w' hrun
          rw [h1 _ _ _ _ hrun]
          dsimp only
          rcases hc : (Nat.beq w'.1.length w.1.length || am_vw w L (st.drop mu.2.1)) with _ | _
          · rw [hc] at h; cases h
          · rw [hc] at h
            exact h2 _ _ _ h
    · cases h
  · cases h
theorem am_mono1 {P : Nat → Option am_M} {F : Nat → Option (List (Option (Option Nat)))} {X : am_X} : ∀ (n d mi pc : Nat) (L : am_L) (st : List AV) (w : am_W) (z : Option AV × am_W), am_ex P F X n d mi pc L st w = some z → am_ex P F X (n + 1) d mi pc L st w = some z := by
  intro n
  induction n with
  | zero => intro d mi pc L st w z h; cases h
  | succ n ih =>
    intro d mi pc L st w z h
    have hcall : ∀ (tg : List Nat) (nx : Nat) (virt : Bool), am_call P w d tg L st virt (fun d' mj L0 => am_ex P F X n d' mj 0 L0 [] w) (fun st' w' => am_ex P F X n d mi nx L st' w') = some z → am_call P w d tg L st virt (fun d' mj L0 => am_ex P F X (n + 1) d' mj 0 L0 [] w) (fun st' w' => am_ex P F X (n + 1) d mi nx L st' w') = some z :=
      fun tg nx virt hc => am_call_mono hc (fun a b c y hy => ih _ _ _ _ _ _ _ hy) (fun a b y hy => ih _ _ _ _ _ _ _ hy)
    have hsmp : ∀ (i : Instr) (tg : List Nat) (cv : Int) (nx : Nat), (match am_smp X i tg cv L st w with
        | some (L', st', w') => am_ex P F X n d mi nx L' st' w'
        | none => none) = some z → (match am_smp X i tg cv L st w with
        | some (L', st', w') => am_ex P F X (n + 1) d mi nx L' st' w'
        | none => none) = some z := by
      intro i tg cv nx hc
      split at hc
      · rename_i L' st' w' hs
        exact ih _ _ _ _ _ _ _ hc
      · cases hc
    have hnew : ∀ (i : Instr) (tg : List Nat) (nx : Nat), (match am_new F i tg L st w with
        | some (st', w') => am_ex P F X n d mi nx L st' w'
        | none => none) = some z → (match am_new F i tg L st w with
        | some (st', w') => am_ex P F X (n + 1) d mi nx L st' w'
        | none => none) = some z := by
      intro i tg nx hc
      split at hc
      · rename_i st' w' hs
        exact ih _ _ _ _ _ _ _ hc
      · cases hc
    unfold am_ex at h ⊢
    split at h
    · cases h
    · split at h
      · cases h
      · rename_i i nx tg cv hf
        split at h
        · exact ih _ _ _ _ _ _ _ h
        · split at h
          · split at h
            · rename_i hq; simp only [hq, if_true]; exact ih _ _ _ _ _ _ _ h
            · rename_i hq; rw [if_neg hq]; exact ih _ _ _ _ _ _ _ h
          · cases h
        · split at h
          · split at h
            · rename_i hq; simp only [hq, if_true]; exact ih _ _ _ _ _ _ _ h
            · rename_i hq; rw [if_neg hq]; exact ih _ _ _ _ _ _ _ h
          · cases h
        · split at h
          · split at h
            · rename_i hq; rw [if_pos hq]; exact ih _ _ _ _ _ _ _ h
            · rename_i hq; rw [if_neg hq]; exact ih _ _ _ _ _ _ _ h
          · cases h
        · exact h
        · exact h
        · exact h
        · exact hnew _ _ _ h
        · exact hnew _ _ _ h
        · exact hcall _ _ _ h
        · rcases hb : Nat.blt (tg.headD 0) 9000 with _ | _
          · rw [hb] at h; exact hsmp _ _ _ _ h
          · rw [hb] at h; exact hcall _ _ _ h
        · rcases hb : Nat.blt (tg.headD 0) 9000 with _ | _
          · rw [hb] at h; exact hsmp _ _ _ _ h
          · rw [hb] at h; exact hcall _ _ _ h
        · exact hsmp _ _ _ _ h
theorem am_mono {P : Nat → Option am_M} {F : Nat → Option (List (Option (Option Nat)))} {X : am_X} {n d mi pc : Nat} {L : am_L} {st : List AV} {w : am_W} {z : Option AV × am_W} (h : am_ex P F X n d mi pc L st w = some z) : ∀ k, am_ex P F X (n + k) d mi pc L st w = some z := by
  intro k
  induction k with
  | zero => exact h
  | succ k ih => exact am_mono1 _ _ _ _ _ _ _ _ ih
def GO (X : am_X) (d mi pc : Nat) (L : am_L) (st : List AV) (w : am_W) (Q : Option AV → am_W → Prop) : Prop := ∃ n r w1, am_ex am_P am_F X n d mi pc L st w = some (r, w1) ∧ Q r w1
