/-! a run makes cells, it takes none away -/
theorem am_sl_set {sh : List am_Sh} {r ci : Nat} {fs fs' : List (Option (Option Nat))} (h : sh[r]? = some (.inr (ci, fs))) (hl : fs'.length = fs.length) : am_sl (sh.set r (.inr (ci, fs'))) = am_sl sh := by
  unfold am_sl
  congr 1
  apply List.ext_getElem?
  intro k
  by_cases hk : k = r
  · subst hk
    have hlt := (List.getElem?_eq_some_iff.mp h).1
    rw [List.getElem?_map, List.getElem?_map, List.getElem?_set_self hlt, h]
    show some fs'.length = some fs.length
    rw [hl]
  · rw [List.getElem?_map, List.getElem?_map, List.getElem?_set_ne (Ne.symm hk)]
theorem am_cond_or {α : Type} {b : Bool} {x y : Option α} {z : α} (h : (bif b then x else y) = some z) : x = some z ∨ y = some z := by
  cases b
  · exact Or.inr h
  · exact Or.inl h
theorem am_smp_same {X : am_X} {i : Instr} {tg : List Nat} {cv : Int} {L L' : am_L} {st st' : List AV} {w w' : am_W} (h : am_smp X i tg cv L st w = some (L', st', w')) : w'.1.length = w.1.length ∧ am_sl w'.1 = am_sl w.1 := by
  cases i
  case putfield j =>
    simp only [am_smp] at h
    split at h
    · split at h
      · rcases am_cond_or h with h | h
        · split at h
          · obtain ⟨_, h2⟩ := am_cond_some h
            cases h2
            exact ⟨rfl, rfl⟩
          · cases h
        · cases h
      · cases h
    · split at h
      · rename_i hr
        rcases am_cond_or h with h | h
        · split at h
          · cases h
            exact ⟨by rw [List.length_set], am_sl_set hr (by rw [List.length_set])⟩
          · cases h
        · cases h
      · cases h
    · cases h
  all_goals first
    | (simp only [am_smp] at h; done)
    | (simp only [am_smp] at h
       (repeat' split at h)
       all_goals first
         | (cases h; exact ⟨rfl, rfl⟩)
         | (cases h; done)
         | (rcases am_cond_or h with h | h <;> cases h; done)
         | (rcases am_cond_or h with h | h <;> first | (cases h; exact ⟨rfl, rfl⟩) | (obtain ⟨_, h2⟩ := am_cond_some h; cases h2; exact ⟨rfl, rfl⟩))
         | (obtain ⟨_, h2⟩ := am_cond_some h; cases h2; exact ⟨rfl, rfl⟩))
theorem am_sl_push (sh : List am_Sh) (s : am_Sh) : am_sl (sh ++ [s]) = am_sl sh + (match s with
  | .inl (_, n) => n
  | .inr (_, fs) => fs.length) := by
  unfold am_sl
  rw [List.map_append, List.sum_append]
  simp
  rcases s with ⟨a, b⟩ | ⟨a, b⟩ <;> rfl
theorem am_new_grow {F : Nat → Option (List (Option (Option Nat)))} {i : Instr} {tg : List Nat} {L : am_L} {st st' : List AV} {w w' : am_W} (h : am_new F i tg L st w = some (st', w')) : w.1.length ≤ w'.1.length ∧ am_sl w.1 ≤ am_sl w'.1 ∧ w'.1.length ≤ 900 := by
  unfold am_new at h
  split at h
  · split at h
    · obtain ⟨h1, h2⟩ := am_cond_some h
      cases h2
      have h3 : w.1.length < 900 := am_blt (Bool.and_eq_true_iff.mp h1).1
      exact ⟨by rw [List.length_append]; omega, by rw [am_sl_push]; omega, by rw [List.length_append]; simp; omega⟩
    · cases h
  · split at h
    · obtain ⟨h1, h2⟩ := am_cond_some h
      cases h2
      have h3 : w.1.length < 900 := am_blt (Bool.and_eq_true_iff.mp (Bool.and_eq_true_iff.mp h1).1).1
      exact ⟨by rw [List.length_append]; omega, by rw [am_sl_push]; omega, by rw [List.length_append]; simp; omega⟩
    · cases h
  · cases h
theorem am_call_inv {P : Nat → Option am_M} {w w1 : am_W} {d : Nat} {tg : List Nat} {L : am_L} {st : List AV} {virt : Bool} {run : Nat → Nat → am_L → am_R} {go : List AV → am_W → am_R} {r : Option AV} (h : am_call P w d tg L st virt run go = some (r, w1)) :
    ∃ (mj pl : Nat) (tl : List Nat) (mu : am_M) (d' : Nat) (r' : Option AV) (w' : am_W), tg = mj :: pl :: tl ∧ P mj = some mu ∧ d = d' + 1 ∧ mu.2.1 ≤ st.length ∧ ((st.drop mu.2.1).map am_cat).sum ≤ 8 ∧ (∀ v ∈ st.take mu.2.1, am_cat v = 1) ∧ (virt = true → am_rcv w (tl.headD 99) st[mu.2.1 - 1]? = true) ∧ run d' mj (am_ent (st.take mu.2.1).reverse mu.2.2.1) = some (r', w') ∧ (w'.1.length = w.1.length ∨ am_vw w L (st.drop mu.2.1) = true) ∧ go (r'.toList ++ st.drop mu.2.1) w' = some (r, w1) := by
  unfold am_call at h
  split at h
  · rename_i mj pl tl
    split at h
    · rename_i mu d' hP
      rcases hb : (Nat.ble mu.2.1 st.length && (Nat.ble ((st.drop mu.2.1).map am_cat).sum 8 && ((st.take mu.2.1).all (fun v => Nat.beq (am_cat v) 1) && (!virt || am_rcv w (tl.headD 99) st[mu.2.1 - 1]?)))) with _ | _
      · rw [hb] at h; cases h
      · rw [hb] at h
        obtain ⟨h1, hb⟩ := Bool.and_eq_true_iff.mp hb
        obtain ⟨h2, hb⟩ := Bool.and_eq_true_iff.mp hb
        obtain ⟨h3, h4⟩ := Bool.and_eq_true_iff.mp hb
        simp only [cond_true] at h
        split at h
        · cases h
        · rename_i r' w' hrun
          rcases hc : (Nat.beq w'.1.length w.1.length || am_vw w L (st.drop mu.2.1)) with _ | _
          · rw [hc] at h; cases h
          · rw [hc] at h
            refine ⟨mj, pl, tl, mu, d', r', w', rfl, hP, rfl, Nat.le_of_ble_eq_true h1, Nat.le_of_ble_eq_true h2, fun v hv => Nat.eq_of_beq_eq_true (List.all_eq_true.mp h3 v hv), fun hv => by rw [hv] at h4; exact h4, hrun, ?_, h⟩
            rcases Bool.or_eq_true_iff.mp hc with hc | hc
            · exact Or.inl (Nat.eq_of_beq_eq_true hc)
            · exact Or.inr hc
    · cases h
  · cases h
theorem am_grow {P : Nat → Option am_M} {F : Nat → Option (List (Option (Option Nat)))} {X : am_X} : ∀ (n d mi pc : Nat) (L : am_L) (st : List AV) (w : am_W) (r : Option AV) (w1 : am_W), am_ex P F X n d mi pc L st w = some (r, w1) → w.1.length ≤ w1.1.length ∧ am_sl w.1 ≤ am_sl w1.1 ∧ (w.1.length ≤ 900 → w1.1.length ≤ 900) := by
  intro n
  induction n with
  | zero =>
    intro d mi pc L st w r w1 h
    cases h
  | succ n ih =>
    intro d mi pc L st w r w1 h
    have hcall : ∀ (tg : List Nat) (nx : Nat) (virt : Bool), am_call P w d tg L st virt (fun d' mj L0 => am_ex P F X n d' mj 0 L0 [] w) (fun st' w' => am_ex P F X n d mi nx L st' w') = some (r, w1) → w.1.length ≤ w1.1.length ∧ am_sl w.1 ≤ am_sl w1.1 ∧ (w.1.length ≤ 900 → w1.1.length ≤ 900) := by
      intro tg nx virt hc
      obtain ⟨mj, pl, tl, mu, d', r', w', -, -, -, -, -, -, -, g1, -, g2⟩ := am_call_inv hc
      have a1 := ih _ _ _ _ _ _ _ _ g1
      have a2 := ih _ _ _ _ _ _ _ _ g2
      exact ⟨Nat.le_trans a1.1 a2.1, Nat.le_trans a1.2.1 a2.2.1, fun z => a2.2.2 (a1.2.2 z)⟩
    have hsmp : ∀ (i : Instr) (tg : List Nat) (cv : Int) (nx : Nat), (match am_smp X i tg cv L st w with
        | some (L', st', w') => am_ex P F X n d mi nx L' st' w'
        | none => none) = some (r, w1) → w.1.length ≤ w1.1.length ∧ am_sl w.1 ≤ am_sl w1.1 ∧ (w.1.length ≤ 900 → w1.1.length ≤ 900) := by
      intro i tg cv nx hc
      split at hc
      · rename_i L' st' w' hs
        have a1 := am_smp_same hs
        have a2 := ih _ _ _ _ _ _ _ _ hc
        exact ⟨by rw [← a1.1]; exact a2.1, by rw [← a1.2]; exact a2.2.1, by rw [← a1.1]; exact a2.2.2⟩
      · cases hc
    have hnew : ∀ (i : Instr) (tg : List Nat) (nx : Nat), (match am_new F i tg L st w with
        | some (st', w') => am_ex P F X n d mi nx L st' w'
        | none => none) = some (r, w1) → w.1.length ≤ w1.1.length ∧ am_sl w.1 ≤ am_sl w1.1 ∧ (w.1.length ≤ 900 → w1.1.length ≤ 900) := by
      intro i tg nx hc
      split at hc
      · rename_i st' w' hs
        have a1 := am_new_grow hs
        have a2 := ih _ _ _ _ _ _ _ _ hc
        exact ⟨Nat.le_trans a1.1 a2.1, Nat.le_trans a1.2.1 a2.2.1, fun _ => a2.2.2 a1.2.2⟩
      · cases hc
    unfold am_ex at h
    split at h
    · cases h
    · split at h
      · cases h
      · rename_i i nx tg cv hf
        split at h
        · exact ih _ _ _ _ _ _ _ _ h
        · split at h
          · split at h
            · exact ih _ _ _ _ _ _ _ _ h
            · exact ih _ _ _ _ _ _ _ _ h
          · cases h
        · split at h
          · split at h
            · exact ih _ _ _ _ _ _ _ _ h
            · exact ih _ _ _ _ _ _ _ _ h
          · cases h
        · split at h
          · split at h
            · exact ih _ _ _ _ _ _ _ _ h
            · exact ih _ _ _ _ _ _ _ _ h
          · cases h
        · split at h
          · obtain ⟨_, h2⟩ := am_cond_some h
            cases h2
            exact ⟨Nat.le_refl _, Nat.le_refl _, fun z => z⟩
          · cases h
        · split at h
          · obtain ⟨_, h2⟩ := am_cond_some h
            cases h2
            exact ⟨Nat.le_refl _, Nat.le_refl _, fun z => z⟩
          · cases h
        · split at h
          · obtain ⟨_, h2⟩ := am_cond_some h
            cases h2
            exact ⟨Nat.le_refl _, Nat.le_refl _, fun z => z⟩
          · cases h
        · exact hnew _ _ _ h
        · exact hnew _ _ _ h
        · exact hcall _ _ _ h
        · rcases am_cond_or h with h | h
          · exact hcall _ _ _ h
          · exact hsmp _ _ _ _ h
        · rcases am_cond_or h with h | h
          · exact hcall _ _ _ h
          · exact hsmp _ _ _ _ h
        · exact hsmp _ _ _ _ h
