/-! the locals are set -/
theorem am_st_len (L : am_L) (i : Nat) (v : AV) : (am_st L i v).length = L.length := by
  unfold am_st
  split
  · rw [List.length_set]
  · split
    · rw [List.length_set, List.length_set]
    · rw [List.length_set]
theorem am_set_get {α : Type} {L : List α} {i j : Nat} {x y : α} (h : (L.set i x)[j]? = some y) : (j = i ∧ y = x) ∨ (j ≠ i ∧ L[j]? = some y) := by
  by_cases hj : j = i
  · subst hj
    have hl : j < (L.set j x).length := (List.getElem?_eq_some_iff.mp h).1
    rw [List.length_set] at hl
    rw [List.getElem?_set_self hl] at h
    exact Or.inl ⟨rfl, (Option.some.inj h).symm⟩
  · rw [List.getElem?_set_ne (Ne.symm hj)] at h
    exact Or.inr ⟨hj, h⟩
theorem am_st_get {L : am_L} {i j : Nat} {v u : AV} (h : (am_st L i v)[j]? = some (some u)) : (j = i ∧ u = v) ∨ (j ≠ i ∧ L[j]? = some (some u) ∧ ¬ (j + 1 = i ∧ am_cat u = 2)) := by
  unfold am_st at h
  split at h
  · rcases am_set_get h with ⟨h1, h2⟩ | ⟨h1, h2⟩
    · exact Or.inl ⟨h1, Option.some.inj h2⟩
    · exact Or.inr ⟨h1, h2, fun q => by omega⟩
  · rename_i k
    split at h
    · rcases am_set_get h with ⟨h1, h2⟩ | ⟨h1, h2⟩
      · exact Or.inl ⟨h1, Option.some.inj h2⟩
      · rcases am_set_get h2 with ⟨h3, h4⟩ | ⟨h3, h4⟩
        · cases h4
        · exact Or.inr ⟨h1, h4, fun q => h3 (by omega)⟩
    · rename_i hno
      rcases am_set_get h with ⟨h1, h2⟩ | ⟨h1, h2⟩
      · exact Or.inl ⟨h1, Option.some.inj h2⟩
      · refine Or.inr ⟨h1, h2, fun q => ?_⟩
        have hk : j = k := by omega
        subst hk
        rcases u with x | x | x
        · exact absurd q.2 (by simp [am_cat])
        · refine hno x ?_
          rw [List.getD_eq_getElem?_getD, h2]
          rfl
        · exact absurd q.2 (by simp [am_cat])
theorem am_LR.st {ad : Nat → Nat} {ls ls' : Array Slot} {nL i : Nat} {L : am_L} {v : AV} (h : am_LR ad ls nL L) (h' : lv_has ls' nL ((i, co ad v) :: (am_lv ad L).filter (fun q => !(q.1 == i) && !(q.1 + 1 == i && q.2.category == 2)))) : am_LR ad ls' nL (am_st L i v) := by
  refine ⟨h'.1, h'.2.1, by rw [am_st_len]; exact h.2.2.1, fun j u hu => ?_⟩
  rcases am_st_get hu with ⟨h1, h2⟩ | ⟨h1, h2, h3⟩
  · subst h1; subst h2
    exact h'.2.2 _ List.mem_cons_self
  · refine h'.2.2 (j, co ad u) (List.mem_cons_of_mem _ (List.mem_filter.mpr ⟨am_lv_mem.mpr ⟨u, h2, rfl⟩, ?_⟩))
    simp only [co_cat]
    simp [h1]
    exact Decidable.not_and_iff_not_or_not.mp h3
theorem am_LR.st2 {ad : Nat → Nat} {ls ls' : Array Slot} {nL i : Nat} {L : am_L} {v : AV} (h : am_LR ad ls nL L) (h' : lv_has ls' nL ((i, co ad v) :: (am_lv ad L).filter (fun q => !(q.1 == i) && (!(q.1 == i + 1) && !(q.1 + 1 == i && q.2.category == 2))))) : am_LR ad ls' nL (am_st2 L i v) := by
  refine ⟨h'.1, h'.2.1, by unfold am_st2; rw [List.length_set, am_st_len]; exact h.2.2.1, fun j u hu => ?_⟩
  unfold am_st2 at hu
  rcases am_set_get hu with ⟨h1, h2⟩ | ⟨h0, hu⟩
  · cases h2
  · rcases am_st_get hu with ⟨h1, h2⟩ | ⟨h1, h2, h3⟩
    · subst h1; subst h2
      exact h'.2.2 _ List.mem_cons_self
    · refine h'.2.2 (j, co ad u) (List.mem_cons_of_mem _ (List.mem_filter.mpr ⟨am_lv_mem.mpr ⟨u, h2, rfl⟩, ?_⟩))
      simp only [co_cat]
      simp [h1, h0]
      exact Decidable.not_and_iff_not_or_not.mp h3
theorem am_blt {a b : Nat} (h : Nat.blt a b = true) : a < b := Nat.blt_eq.mp h
theorem am_cond_some {α : Type} {b : Bool} {x y : α} (h : (bif b then some x else none) = some y) : b = true ∧ x = y := by
  cases b
  · cases h
  · exact ⟨rfl, Option.some.inj h⟩
theorem am_ite_some {α : Type} {c : Prop} [Decidable c] {x y : α} (h : (if c then some x else none) = some y) : c ∧ x = y := by
  split at h
  · exact ⟨‹_›, Option.some.inj h⟩
  · cases h
theorem am_ite_none {α : Type} {c : Prop} [Decidable c] {x y : α} (h : (if c then none else some x) = some y) : ¬ c ∧ x = y := by
  split at h
  · cases h
  · exact ⟨‹_›, Option.some.inj h⟩
theorem am_arw_some {w : am_W} {r ty n : Nat} (h : am_arw w r = some (ty, n)) : w.1[r]? = some (.inl (ty, n)) ∧ n < 2147483648 := by
  unfold am_arw at h
  split at h
  · rename_i ty2 n2 e
    obtain ⟨h1, h2⟩ := am_cond_some h
    cases h2
    exact ⟨e, am_blt h1⟩
  · cases h
theorem am_arr_some {X : am_X} {w : am_W} {r ty n : Nat} {f : Nat → Int} (h : am_arr X w r = some (ty, n, f)) : n < 2147483648 ∧ ((w.1[r]? = some (.inl (ty, n)) ∧ f = w.2 r) ∨ (w.1[r]? = none ∧ X.1 r = some (ty, n, f))) := by
  unfold am_arr at h
  split at h
  · rename_i ty2 n2 e
    obtain ⟨h1, h2⟩ := am_cond_some h
    cases h2
    exact ⟨am_blt h1, Or.inl ⟨e, rfl⟩⟩
  · cases h
  · rename_i e
    split at h
    · rename_i ty2 n2 f2 e2
      obtain ⟨h1, h2⟩ := am_cond_some h
      cases h2
      exact ⟨am_blt h1, Or.inr ⟨e, e2⟩⟩
    · cases h
section SND
variable {p : Program} {l : Launch} {e : Env} {R : Room} {s : State} {m : MethodId} {args : Array Value} {below : List Frame} {meth : Method} {c : Code} {H : Heap} {locs : List Loc} {cells slots : Nat} {Q : State → Prop}
variable {cc : ByteArray} {pc nx nL : Nat} {ls : Array Slot} {ad : Nat → Nat} {cy : Nat → ClassId} {D : va_G} {b0 : Nat} {L L' : am_L} {st st' : List AV} {w w' : am_W} {X : am_X} {sites : List (String × Nat × Nat)} {nests : List (String × Nat × MethodName × String)} {own : String} {ini : Bool} {tg : List Nat} {cv : Int}
/-- the world is the same, and so are the locals -/
abbrev am_G (p : Program) (l : Launch) (e : Env) (R : Room) (s : State) (m : MethodId) (args : Array Value) (below : List Frame) (meth : Method) (c : Code) (cells slots : Nat) (Q : State → Prop) (nL : Nat) (ad : Nat → Nat) (cy : Nat → ClassId) (D : va_G) (b0 nx : Nat) (L' : am_L) (st' : List AV) (w' : am_W) : Prop :=
  ∀ (ls' : Array Slot) (H' : Heap) (locs' : List Loc), am_LR ad ls' nL L' → va_P D vwCl (am_ws ad cy w') H' → va_D (am_A b0) (am_ws ad cy w') → va_S (am_A b0) s.heap H' locs' → W p l e R s m args below meth c H' locs' cells slots Q (F0 m nx ls' (st'.map (co ad)))
theorem am_cell0 {ad : Nat → Nat} {cy : Nat → ClassId} {w : am_W} {r n : Nat} (h : w.1[r]? = some (.inl (0, n))) : (am_ws ad cy w)[r]? = some (ad r, .inl (cy 0, n, .inl (fun j => Int32.ofInt (w.2 r j)))) := by
  rw [am_ws_get, h]; rfl
theorem am_cell1 {ad : Nat → Nat} {cy : Nat → ClassId} {w : am_W} {r n : Nat} (h : w.1[r]? = some (.inl (1, n))) : (am_ws ad cy w)[r]? = some (ad r, .inl (cy 1, n, .inl (fun j => Int32.ofInt (w.2 r j)))) := by
  rw [am_ws_get, h]; rfl
theorem am_cell2 {ad : Nat → Nat} {cy : Nat → ClassId} {w : am_W} {r n : Nat} (h : w.1[r]? = some (.inl (2, n))) : (am_ws ad cy w)[r]? = some (ad r, .inl (cy 2, n, .inr (.inl (fun j => Int64.ofInt (w.2 r j))))) := by
  rw [am_ws_get, h]; rfl
theorem am_cell3 {ad : Nat → Nat} {cy : Nat → ClassId} {w : am_W} {r n : Nat} (h : w.1[r]? = some (.inl (3, n))) : (am_ws ad cy w)[r]? = some (ad r, .inl (cy 3, n, .inl (fun j => Int32.ofInt (w.2 r j)))) := by
  rw [am_ws_get, h]; rfl
theorem am_u2_row (dt : Nat → Nat → Int) (r j : Nat) (x : Int) : (fun k => Int32.ofInt (u2 dt r j x r k)) = upd (fun k => Int32.ofInt (dt r k)) j (Int32.ofInt x) := by
  funext k
  unfold u2 upd
  by_cases h : k = j
  · simp [h]
  · simp [h]
theorem am_u2_row64 (dt : Nat → Nat → Int) (r j : Nat) (x : Int) : (fun k => Int64.ofInt (u2 dt r j x r k)) = vp_updL (fun k => Int64.ofInt (dt r k)) j (Int64.ofInt x) := by
  funext k
  unfold u2 vp_updL
  by_cases h : k = j
  · simp [h]
  · simp [h]
theorem am_u2_ne (dt : Nat → Nat → Int) (r j : Nat) (x : Int) : ∀ a, a ≠ r → ∀ b, u2 dt r j x a b = dt a b := fun a h b => if_neg (fun q => h q.1)
theorem am_cp_row (dt : Nat → Nat → Int) (r0 r1 sp dp n : Nat) : (fun k => Int32.ofInt (am_cp dt r0 r1 sp dp n r1 k)) = va_cpy (fun k => Int32.ofInt (dt r0 k)) (fun k => Int32.ofInt (dt r1 k)) sp dp n := by
  funext k
  unfold am_cp va_cpy
  by_cases h : dp ≤ k ∧ k < dp + n
  · rw [if_pos ⟨rfl, h⟩, if_pos h]
  · rw [if_neg (fun q => h q.2), if_neg h]
theorem am_cp_ne (dt : Nat → Nat → Int) (r0 r1 sp dp n : Nat) : ∀ a, a ≠ r1 → ∀ b, am_cp dt r0 r1 sp dp n a b = dt a b := fun a h b => if_neg (fun q => h q.1)
end SND
