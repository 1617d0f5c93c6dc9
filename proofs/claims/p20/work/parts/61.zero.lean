def TB : List (Nat × Nat × Int) → Nat → Nat → Int
  | [], _, _ => 0
  | (c, s, x) :: l, a, b => if a = c ∧ b = s then x else TB l a b
def hTB : List (Nat × Nat × Int) := [(79, 21, -1), (71, 1, 0), (35, 12, 0), (35, 8, 0), (35, 7, 0), (35, 3, -1), (35, 2, 0), (35, 1, 0), (0, 2, 0), (33, 1, 2), (33, 0, 20), (33, 3, 0), (31, 1, 2), (31, 0, 40), (31, 3, 0), (29, 1, 6), (29, 0, 300), (29, 3, 0), (27, 1, 4), (27, 0, 40), (27, 3, 0), (24, 1, 5), (24, 0, 12), (24, 3, 0), (18, 0, 0), (16, 1, 2), (16, 0, 20), (16, 3, 0), (14, 1, 2), (14, 0, 40), (14, 3, 0), (12, 1, 6), (12, 0, 300), (12, 3, 0), (10, 1, 4), (10, 0, 40), (10, 3, 0), (7, 1, 5), (7, 0, 12), (7, 3, 0), (1, 0, 0)]
theorem LO0 (k j : Nat) : LO k j ≤ 0 := by unfold LO; (repeat' split) <;> omega
theorem HI0 (k j : Nat) : 0 ≤ HI k j := by unfold HI; (repeat' split) <;> omega
theorem TB_R : ∀ (l : List (Nat × Nat × Int)), (∀ q ∈ l, LO q.1 q.2.1 ≤ q.2.2 ∧ q.2.2 ≤ HI q.1 q.2.1) → ∀ k j, LO k j ≤ TB l k j ∧ TB l k j ≤ HI k j
  | [], _, k, j => ⟨LO0 k j, HI0 k j⟩
  | (c, s, x) :: l, h, k, j => by
    unfold TB
    split
    · rename_i e; obtain ⟨rfl, rfl⟩ := e; exact h (k, j, x) List.mem_cons_self
    · exact TB_R l (fun q hq => h q (List.mem_cons_of_mem _ hq)) k j
theorem hD_T : hD41 = TB hTB := by funext a b; rfl
theorem hD_I : InvC hD41 := by
  rw [hD_T]
  refine ⟨TB_R hTB (by decide +kernel), ?_⟩
  intro k j hc
  unfold CK at hc
  split at hc
  all_goals first
    | (split at hc
       · rfl
       · rfl
       · cases hc)
    | cases hc
theorem MW_z {f : Nat → Int} (h : ∀ j, f j = 0) : MW f := by
  refine ⟨⟨?_, ?_, ?_, ?_, ?_, ?_, ?_⟩, ?_, ?_, ?_, ?_, ?_, ?_, ?_⟩
  · rw [h]; decide
  · rw [h]; decide
  · rw [h]; decide
  · rw [h]; decide
  · rw [h]; decide
  · intro k hk; rw [h]; decide
  · intro k hk; rw [h]; decide
  · intro m hm; rw [h, h, h, h, h]; unfold aOK; decide
  · intro k hk i hi hlt; rw [h] at hlt; omega
  · intro m hm; rw [h, h, h, h, h]; unfold qOK; decide
  · intro m hm; rw [h, h, h, h]; unfold cOK; decide
  · intro m hm; rw [h, h, h]; unfold nOK; decide
  · intro m hm; rw [h, h]; decide
  · intro m hm hlt; rw [h] at hlt; omega
