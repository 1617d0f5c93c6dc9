/-! a child's odds of both sides: alike where QUESTIONS' answers and ANSWERS are -/
section ODL
variable {A B f : Nat → Int} {p : Int}
theorem AGL (hA : ANL A f) (hS : SDL B f) {r : Int} (hr : 0 ≤ r ∧ r ≤ 10) : ∀ n : Nat, n ≤ (f 3).toNat → AGC (SDC B) (fun i c => A (6 * i + c)) p r n = AGC (SAID f) (fun i c => f (5540 + 6 * i + c)) p r n := by
  intro n hn
  refine AGC_c n (fun i hi => ?_)
  have h3 : (i : Int) < f 3 := by omega
  have z := (hA i h3).2.1
  exact ⟨ANL_v hA h3 (by decide), ANL_v hA h3 (by decide), ANL_v hA h3 (by decide), SDL_c hS (q := (f (5540 + 6 * i + 1)).toNat) (by omega) hr⟩
theorem ODL_b (hA : ANL A f) (hS : SDL B f) {n : Int} (hn : n = f 3) : BST (fun k => ((AGC (SDC B) (fun i c => A (6 * i + c)) p (k : Int) n.toNat : Nat) : Int)) 7 = BST (fun k => PW9 (AGC (SAID f) (fun i c => f (5540 + 6 * i + c)) p (k : Int) (f 3).toNat)) 7 := by
  subst hn
  refine BST_c 7 (fun i j hi hj => ?_)
  show ((AGC (SDC B) (fun i c => A (6 * i + c)) p (i : Int) (f 3).toNat : Nat) : Int) < ((AGC (SDC B) (fun i c => A (6 * i + c)) p (j : Int) (f 3).toNat : Nat) : Int) ↔ PW9 (AGC (SAID f) (fun i c => f (5540 + 6 * i + c)) p (i : Int) (f 3).toNat) < PW9 (AGC (SAID f) (fun i c => f (5540 + 6 * i + c)) p (j : Int) (f 3).toNat)
  rw [AGL hA hS (by omega) _ (Nat.le_refl _), AGL hA hS (by omega) _ (Nat.le_refl _), PW9_gt]
  omega
theorem ODL_o (hA : ANL A f) (hS : SDL B f) {n r : Int} (hn : n = f 3) (hr : 0 ≤ r ∧ r ≤ 7) : ODD (fun k => PW9 (AGC (SDC B) (fun i c => A (6 * i + c)) p (k : Int) n.toNat)) r = ODD (fun k => PW9 (AGC (SAID f) (fun i c => f (5540 + 6 * i + c)) p (k : Int) (f 3).toNat)) r := by
  subst hn
  have e : ∀ k : Nat, k < 8 → PW9 (AGC (SDC B) (fun i c => A (6 * i + c)) p (k : Int) (f 3).toNat) = PW9 (AGC (SAID f) (fun i c => f (5540 + 6 * i + c)) p (k : Int) (f 3).toNat) := fun k hk => by rw [AGL hA hS (by omega) _ (Nat.le_refl _)]
  unfold ODD
  rw [SM8_c 8 e]
  show 1000 * PW9 (AGC (SDC B) (fun i c => A (6 * i + c)) p (r.toNat : Int) (f 3).toNat) / _ = 1000 * PW9 (AGC (SAID f) (fun i c => f (5540 + 6 * i + c)) p (r.toNat : Int) (f 3).toNat) / _
  rw [e r.toNat (by omega)]
theorem ODL_v (hA : ANL A f) (hS : SDL B f) {n r : Int} (hn : n = f 3) (hr : 0 ≤ r ∧ r ≤ 8) : (if r = 8 then ((BST (fun k => ((AGC (SDC B) (fun i c => A (6 * i + c)) p (k : Int) n.toNat : Nat) : Int)) 7 : Nat) : Int) else ODD (fun k => PW9 (AGC (SDC B) (fun i c => A (6 * i + c)) p (k : Int) n.toNat)) r) = (if r = 8 then ((BST (fun k => PW9 (AGC (SAID f) (fun i c => f (5540 + 6 * i + c)) p (k : Int) (f 3).toNat)) 7 : Nat) : Int) else ODD (fun k => PW9 (AGC (SAID f) (fun i c => f (5540 + 6 * i + c)) p (k : Int) (f 3).toNat)) r) := by
  rw [ODL_b hA hS hn]
  by_cases c : r = 8
  · rw [if_pos c, if_pos c]
  · rw [if_neg c, if_neg c, ODL_o hA hS hn (by omega)]
end ODL
