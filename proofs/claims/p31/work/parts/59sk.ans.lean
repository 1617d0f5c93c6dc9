/-! ANSWERS: the class's rows and the reference's: there are the CHILD and the QUESTION; a child's answers counted -/
def ANL (A f : Nat → Int) : Prop := ∀ i : Nat, (i : Int) < f 3 → (0 ≤ f (5540 + 6 * i + 0) ∧ f (5540 + 6 * i + 0) < f 2) ∧ (0 ≤ f (5540 + 6 * i + 1) ∧ f (5540 + 6 * i + 1) < f 1) ∧ ∀ c : Nat, c < 6 → A (6 * i + c) = f (5540 + 6 * i + c)
theorem ANL_0 {A f : Nat → Int} (h : f 3 = 0) : ANL A f := fun i hi => by omega
theorem ANL_k {A A1 f f1 : Nat → Int} (h : ANL A f) (hM : MW f) (hA : ∀ j : Nat, j < 1800 → A1 j = A j) (h1 : f 1 ≤ f1 1) (h2 : f 2 ≤ f1 2) (hn : f1 3 = f 3) (hf : ∀ j : Nat, 5540 ≤ j → j < 7340 → f1 j = f j) : ANL A1 f1 := by
  have b := hM.1.2.2.1
  intro i hi
  rw [hn] at hi
  obtain ⟨z1, z2, z3⟩ := h i hi
  rw [hf (5540 + 6 * i + 0) (by omega) (by omega), hf (5540 + 6 * i + 1) (by omega) (by omega)]
  refine ⟨⟨z1.1, by omega⟩, ⟨z2.1, by omega⟩, fun c hc => ?_⟩
  rw [hA _ (by omega), hf _ (by omega) (by omega)]
  exact z3 c hc
theorem ANL_a {A A1 f f1 : Nat → Int} {n x0 x1 x2 x3 x4 x5 : Int} (h : ANL A f) (en : n = f 3) (h0 : 0 ≤ n) (kp : ∀ j : Nat, (j : Int) < 6 * n → A1 j = A j) (e0 : A1 (((n) * 6) + 0).toNat = x0) (e1 : A1 (((n) * 6) + 1).toNat = x1) (e2 : A1 (((n) * 6) + 2).toNat = x2) (e3 : A1 (((n) * 6) + 3).toNat = x3) (e4 : A1 (((n) * 6) + 4).toNat = x4) (e5 : A1 (((n) * 6) + 5).toNat = x5) (f0 : f1 3 = f 3 + 1) (fk : ∀ j : Nat, ¬ j = 3 → (j < 5540 + 6 * (f 3).toNat ∨ 5546 + 6 * (f 3).toNat ≤ j) → 5540 ≤ j → f1 j = f j) (g0 : f1 (5540 + 6 * (f 3).toNat + 0) = x0) (g1 : f1 (5540 + 6 * (f 3).toNat + 1) = x1) (g2 : f1 (5540 + 6 * (f 3).toNat + 2) = x2) (g3 : f1 (5540 + 6 * (f 3).toNat + 3) = x3) (g4 : f1 (5540 + 6 * (f 3).toNat + 4) = x4) (g5 : f1 (5540 + 6 * (f 3).toNat + 5) = x5) (h1 : f 1 ≤ f1 1) (h2 : f 2 ≤ f1 2) (b0 : 0 ≤ x0 ∧ x0 < f 2) (b1 : 0 ≤ x1 ∧ x1 < f 1) : ANL A1 f1 := by
  intro i hi
  by_cases e : (i : Int) = n
  · have ei : i = (f 3).toNat := by omega
    rw [← ei] at g0 g1 g2 g3 g4 g5
    refine ⟨⟨by rw [g0]; exact b0.1, by rw [g0]; omega⟩, ⟨by rw [g1]; exact b1.1, by rw [g1]; omega⟩, fun c hc => ?_⟩
    have c6 : c = 0 ∨ c = 1 ∨ c = 2 ∨ c = 3 ∨ c = 4 ∨ c = 5 := by omega
    rcases c6 with rfl | rfl | rfl | rfl | rfl | rfl
    · rw [show 6 * i + 0 = (((n) * 6) + 0).toNat by omega, e0, g0]
    · rw [show 6 * i + 1 = (((n) * 6) + 1).toNat by omega, e1, g1]
    · rw [show 6 * i + 2 = (((n) * 6) + 2).toNat by omega, e2, g2]
    · rw [show 6 * i + 3 = (((n) * 6) + 3).toNat by omega, e3, g3]
    · rw [show 6 * i + 4 = (((n) * 6) + 4).toNat by omega, e4, g4]
    · rw [show 6 * i + 5 = (((n) * 6) + 5).toNat by omega, e5, g5]
  · obtain ⟨z1, z2, z3⟩ := h i (by omega)
    rw [fk (5540 + 6 * i + 0) (by omega) (by omega) (by omega), fk (5540 + 6 * i + 1) (by omega) (by omega) (by omega)]
    refine ⟨⟨z1.1, by omega⟩, ⟨z2.1, by omega⟩, fun c hc => ?_⟩
    rw [kp _ (by omega), fk _ (by omega) (by omega) (by omega)]
    exact z3 c hc
theorem ANL_v {A f : Nat → Int} (h : ANL A f) {i c : Nat} (hi : (i : Int) < f 3) (hc : c < 6) : A (6 * i + c) = f (5540 + 6 * i + c) := (h i hi).2.2 c hc
