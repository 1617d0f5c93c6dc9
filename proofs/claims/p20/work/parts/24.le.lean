/-! what a local holds that is dead is of no account: with more known, a run is the same -/
def am_nrf (b : Option AV) : Prop := match b with
  | some (.inr (.inr _)) => False
  | _ => True
def am_leo (a b : Option AV) : Prop := a = b ∨ (a = none ∧ am_nrf b)
def am_le : am_L → am_L → Prop
  | [], [] => True
  | a :: l, b :: l' => am_leo a b ∧ am_le l l'
  | _, _ => False
theorem le_refl : ∀ (L : am_L), am_le L L
  | [] => trivial
  | _ :: l => ⟨.inl rfl, le_refl l⟩
theorem le_len : ∀ {L L' : am_L}, am_le L L' → L.length = L'.length
  | [], [], _ => rfl
  | _ :: _, _ :: _, h => by simp only [List.length_cons, le_len h.2]
theorem le_at : ∀ {L L' : am_L} (i : Nat), am_le L L' → am_leo (L.getD i none) (L'.getD i none)
  | [], [], _, _ => .inl rfl
  | _ :: _, _ :: _, 0, h => h.1
  | _ :: l, _ :: l', i + 1, h => le_at (L := l) (L' := l') i h.2
theorem le_set : ∀ {L L' : am_L} (i : Nat) {a b : Option AV}, am_le L L' → am_leo a b → am_le (L.set i a) (L'.set i b)
  | [], [], _, _, _, _, _ => trivial
  | _ :: _, _ :: _, 0, _, _, h, g => ⟨g, h.2⟩
  | _ :: l, _ :: l', i + 1, _, _, h, g => ⟨h.1, le_set (L := l) (L' := l') i h.2 g⟩
theorem le_setr : ∀ {L L' : am_L} (i : Nat), am_le L L' → L.getD i none = none → am_le L (L'.set i none)
  | [], [], _, _, _ => trivial
  | a :: _, _ :: _, 0, h, g => ⟨.inl g, h.2⟩
  | _ :: l, _ :: l', i + 1, h, g => ⟨h.1, le_setr (L := l) (L' := l') i h.2 g⟩
theorem le_ld {L L' : am_L} {i : Nat} {v : AV} (h : am_le L L') (g : am_ld L i = some v) : am_ld L' i = some v := by
  unfold am_ld at g ⊢
  rcases le_at i h with e | ⟨e, -⟩
  · rw [← e]; exact g
  · rw [e] at g; cases g
theorem le_st {L L' : am_L} (i : Nat) (v : AV) (h : am_le L L') : am_le (am_st L i v) (am_st L' i v) := by
  cases i with
  | zero => exact le_set 0 h (.inl rfl)
  | succ j =>
    unfold am_st
    dsimp only
    rcases le_at j h with e | ⟨e, en⟩
    · rw [← e]
      split
      · exact le_set _ (le_set _ h (.inl rfl)) (.inl rfl)
      · exact le_set _ h (.inl rfl)
    · rw [e]
      dsimp only
      split
      · exact le_set _ (le_setr _ h e) (.inl rfl)
      · exact le_set _ h (.inl rfl)
theorem le_st2 {L L' : am_L} (i : Nat) (v : AV) (h : am_le L L') : am_le (am_st2 L i v) (am_st2 L' i v) := le_set _ (le_st i v h) (.inl rfl)
theorem le_all {f : Option AV → Bool} (hf : ∀ b, am_nrf b → f b = f none) : ∀ {L L' : am_L}, am_le L L' → L.all f = L'.all f
  | [], [], _ => rfl
  | a :: l, b :: l', h => by
    rw [List.all_cons, List.all_cons, le_all hf h.2]
    congr 1
    rcases h.1 with e | ⟨e, en⟩
    · rw [e]
    · subst e
      exact (hf b en).symm
theorem le_vw {w : am_W} {L L' : am_L} (h : am_le L L') (st : List AV) : am_vw w L st = am_vw w L' st := by
  unfold am_vw
  rw [le_all ?_ h]
  intro b hb
  rcases b with _ | (x | x | x)
  · rfl
  · rfl
  · rfl
  · exact absurd hb (fun z => z)
theorem le_smp {X : am_X} {i : Instr} {tg : List Nat} {cv : Int} {L L' : am_L} {st : List AV} {w : am_W} {L1 : am_L} {st1 : List AV} {w1 : am_W} (hl : am_le L L') (h : am_smp X i tg cv L st w = some (L1, st1, w1)) : ∃ L2, am_le L1 L2 ∧ am_smp X i tg cv L' st w = some (L2, st1, w1) := by
  have hn := le_len hl
  cases i
  case iload =>
    simp only [am_smp] at h ⊢
    split at h
    · rename_i x e; rw [le_ld hl e]; cases h; exact ⟨_, hl, rfl⟩
    · cases h
  case iload_n =>
    simp only [am_smp] at h ⊢
    split at h
    · rename_i x e; rw [le_ld hl e]; cases h; exact ⟨_, hl, rfl⟩
    · cases h
  case lload =>
    simp only [am_smp] at h ⊢
    split at h
    · rename_i x e; rw [le_ld hl e]; cases h; exact ⟨_, hl, rfl⟩
    · cases h
  case lload_n =>
    simp only [am_smp] at h ⊢
    split at h
    · rename_i x e; rw [le_ld hl e]; cases h; exact ⟨_, hl, rfl⟩
    · cases h
  case aload =>
    simp only [am_smp] at h ⊢
    split at h
    · rename_i x e; rw [le_ld hl e]; cases h; exact ⟨_, hl, rfl⟩
    · cases h
  case aload_n =>
    simp only [am_smp] at h ⊢
    split at h
    · rename_i x e; rw [le_ld hl e]; cases h; exact ⟨_, hl, rfl⟩
    · cases h
  case iinc =>
    simp only [am_smp] at h ⊢
    split at h
    · rename_i x e
      rw [le_ld hl e]
      dsimp only
      rw [hn] at h
      rcases hb : Nat.blt (tg.headD 0) L'.length with _ | _
      · rw [hb] at h; cases h
      · rw [hb] at h; cases h; exact ⟨_, le_st _ _ hl, rfl⟩
    · cases h
  all_goals first
    | (simp only [am_smp] at h ⊢
       split at h
       · rw [hn] at h
         rcases hb : Nat.blt (tg.headD 0) L'.length with _ | _
         · rw [hb] at h; cases h
         · rw [hb] at h; cases h; exact ⟨_, le_st _ _ hl, rfl⟩
       · cases h)
    | (simp only [am_smp] at h ⊢
       split at h
       · rw [hn] at h
         rcases hb : Nat.blt (tg.headD 0 + 1) L'.length with _ | _
         · rw [hb] at h; cases h
         · rw [hb] at h; cases h; exact ⟨_, le_st2 _ _ hl, rfl⟩
       · cases h)
    | (refine ⟨L', ?_⟩
       simp only [am_smp, cond_eq_ite] at h ⊢
       (repeat' split at h) <;> (first | (cases h; done) | (simp only [Option.some.injEq, Prod.mk.injEq] at h; obtain ⟨rfl, rfl, rfl⟩ := h; refine ⟨hl, ?_⟩; simp_all)))
theorem le_call {P : Nat → Option am_M} {w : am_W} {d : Nat} {tg : List Nat} {L L' : am_L} {st : List AV} {virt : Bool} {run : Nat → Nat → am_L → am_R} {go go' : List AV → am_W → am_R} {z : Option AV × am_W} (hl : am_le L L') (h : am_call P w d tg L st virt run go = some z) (h2 : ∀ a b y, go a b = some y → go' a b = some y) : am_call P w d tg L' st virt run go' = some z := by
  unfold am_call at h ⊢
  split at h
  · split at h
    · rename_i mu d' hP
      rcases hb : (Nat.ble mu.2.1 st.length && (Nat.ble ((st.drop mu.2.1).map am_cat).sum 8 && ((st.take mu.2.1).all (fun v => Nat.beq (am_cat v) 1) && (!virt || am_rcv w (List.headD ‹List Nat› 99) st[mu.2.1 - 1]?)))) with _ | _
      · rw [hb] at h; cases h
      · rw [hb] at h
        simp only [hb, cond_true] at h ⊢
        split at h
        · cases h
        · rename_i r' w' hrun
          rw [le_vw hl] at h
          rcases hc : (Nat.beq w'.1.length w.1.length || am_vw w L' (st.drop mu.2.1)) with _ | _
          · rw [hc] at h; cases h
          · rw [hc] at h
            exact h2 _ _ _ h
    · cases h
  · cases h
theorem le_new {F : Nat → Option (List (Option (Option Nat)))} {i : Instr} {tg : List Nat} {L L' : am_L} {st : List AV} {w : am_W} (hl : am_le L L') : am_new F i tg L st w = am_new F i tg L' st w := by
  unfold am_new
  split
  · rw [le_vw hl]
  · split
    · rw [le_vw hl]
    · rfl
  · rfl
theorem le_ex {P : Nat → Option am_M} {F : Nat → Option (List (Option (Option Nat)))} {X : am_X} : ∀ (n d mi pc : Nat) (L L' : am_L) (st : List AV) (w : am_W) (z : Option AV × am_W), am_le L L' → am_ex P F X n d mi pc L st w = some z → am_ex P F X n d mi pc L' st w = some z := by
  intro n
  induction n with
  | zero => intro d mi pc L L' st w z _ h; cases h
  | succ n ih =>
    intro d mi pc L L' st w z hl h
    have hcall : ∀ (tg : List Nat) (nx : Nat) (virt : Bool), am_call P w d tg L st virt (fun d' mj L0 => am_ex P F X n d' mj 0 L0 [] w) (fun st' w' => am_ex P F X n d mi nx L st' w') = some z → am_call P w d tg L' st virt (fun d' mj L0 => am_ex P F X n d' mj 0 L0 [] w) (fun st' w' => am_ex P F X n d mi nx L' st' w') = some z :=
      fun tg nx virt hc => le_call hl hc (fun a b y hy => ih _ _ _ _ _ _ _ _ hl hy)
    have hsmp : ∀ (i : Instr) (tg : List Nat) (cv : Int) (nx : Nat), (match am_smp X i tg cv L st w with
        | some (L', st', w') => am_ex P F X n d mi nx L' st' w'
        | none => none) = some z → (match am_smp X i tg cv L' st w with
        | some (L', st', w') => am_ex P F X n d mi nx L' st' w'
        | none => none) = some z := by
      intro i tg cv nx hc
      split at hc
      · rename_i L1 st' w' hs
        obtain ⟨L2, h1, h2⟩ := le_smp hl hs
        rw [h2]
        exact ih _ _ _ _ _ _ _ _ h1 hc
      · cases hc
    have hnew : ∀ (i : Instr) (tg : List Nat) (nx : Nat), (match am_new F i tg L st w with
        | some (st', w') => am_ex P F X n d mi nx L st' w'
        | none => none) = some z → (match am_new F i tg L' st w with
        | some (st', w') => am_ex P F X n d mi nx L' st' w'
        | none => none) = some z := by
      intro i tg nx hc
      rw [← le_new hl]
      split at hc
      · rename_i st' w' hs
        exact ih _ _ _ _ _ _ _ _ hl hc
      · cases hc
    unfold am_ex at h ⊢
    split at h
    · cases h
    · split at h
      · cases h
      · rename_i i nx tg cv hf
        split at h
        · exact ih _ _ _ _ _ _ _ _ hl h
        · split at h
          · split at h
            · rename_i hq; simp only [hq, if_true]; exact ih _ _ _ _ _ _ _ _ hl h
            · rename_i hq; rw [if_neg hq]; exact ih _ _ _ _ _ _ _ _ hl h
          · cases h
        · split at h
          · split at h
            · rename_i hq; simp only [hq, if_true]; exact ih _ _ _ _ _ _ _ _ hl h
            · rename_i hq; rw [if_neg hq]; exact ih _ _ _ _ _ _ _ _ hl h
          · cases h
        · split at h
          · split at h
            · rename_i hq; rw [if_pos hq]; exact ih _ _ _ _ _ _ _ _ hl h
            · rename_i hq; rw [if_neg hq]; exact ih _ _ _ _ _ _ _ _ hl h
          · cases h
        · exact h
        · exact h
        · exact h
        · exact hnew _ _ _ h
        · exact hnew _ _ _ h
        · exact hcall _ _ _ h
        · rcases hb : Nat.blt (tg.headD 0) 9000 with _ | _
          · rw [hb] at h; exact hsmp _ _ _ _ h
          · rw [hb] at h; exact hcall _ _ _ h
        · rcases hb : Nat.blt (tg.headD 0) 9000 with _ | _
          · rw [hb] at h; exact hsmp _ _ _ _ h
          · rw [hb] at h; exact hcall _ _ _ h
        · exact hsmp _ _ _ _ h
theorem GO.le {X : am_X} {d mi pc : Nat} {L L' : am_L} {st : List AV} {w : am_W} {Q : Option AV → am_W → Prop} (g : GO X d mi pc L st w Q) (hl : am_le L L') : GO X d mi pc L' st w Q := by
  obtain ⟨n, r, w1, h1, h2⟩ := g
  exact ⟨n, r, w1, le_ex _ _ _ _ _ _ _ _ _ hl h1, h2⟩
