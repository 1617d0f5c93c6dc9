/-! CHANCES: what both come to, and between what they lie -/
theorem WS_R8 {f fa : Nat → Int} {l : Int} : ∀ n : Nat, n ≤ 8 → 0 ≤ WS f fa l n ∧ WS f fa l n ≤ 99 * n
  | 0, _ => by constructor <;> exact Int.le_refl _
  | n + 1, h => by
    have z := WS_R8 (f := f) (fa := fa) (l := l) n (by omega)
    have w := WH_R7 (f := f) (fa := fa) (l := l) (r := (n : Int)) (by omega)
    show 0 ≤ WS f fa l n + WH f fa l (n : Int) ∧ WS f fa l n + WH f fa l (n : Int) ≤ _
    omega
theorem SOF_R {f fa : Nat → Int} {l a : Int} {S : Nat → Int} : ∀ n : Nat, n ≤ 8 → 0 ≤ SOF S (fun r => WH f fa l (r : Int)) a n ∧ SOF S (fun r => WH f fa l (r : Int)) a n ≤ WS f fa l n
  | 0, _ => by constructor <;> exact Int.le_refl _
  | n + 1, h => by
    have z := SOF_R (f := f) (fa := fa) (l := l) (a := a) (S := S) n (by omega)
    have w := WH_R7 (f := f) (fa := fa) (l := l) (r := (n : Int)) (by omega)
    show 0 ≤ SOF S _ a n + (if S n = a then WH f fa l (n : Int) else 0) ∧ SOF S _ a n + (if S n = a then WH f fa l (n : Int) else 0) ≤ WS f fa l n + WH f fa l (n : Int)
    split <;> omega
theorem SOF_y {S w : Nat → Int} {a r : Int} (h0 : 0 ≤ r) : S r.toNat = a → SOF S w a (r + 1).toNat = SOF S w a r.toNat + w r.toNat := by
  intro e
  rw [show (r + 1).toNat = r.toNat + 1 by omega]
  show SOF S w a r.toNat + (if S r.toNat = a then w r.toNat else 0) = _
  rw [if_pos e]
theorem SOF_n {S w : Nat → Int} {a r : Int} (h0 : 0 ≤ r) : ¬ S r.toNat = a → SOF S w a (r + 1).toNat = SOF S w a r.toNat := by
  intro e
  rw [show (r + 1).toNat = r.toNat + 1 by omega]
  show SOF S w a r.toNat + (if S r.toNat = a then w r.toNat else 0) = _
  rw [if_neg e, Int.add_zero]
theorem CHP_b {all pull so a s0 : Int} (h1 : 1 ≤ all ∧ all ≤ 792) (h2 : 0 ≤ pull ∧ pull ≤ 100) (h3 : 0 ≤ so ∧ so ≤ all) : 0 ≤ (100 - pull) * so + (if a = s0 then pull * all else 0) ∧ (100 - pull) * so + (if a = s0 then pull * all else 0) ≤ 100 * all := by
  have e1 : 0 ≤ (100 - pull) * so := Int.mul_nonneg (by omega) h3.1
  have e2 : (100 - pull) * so ≤ (100 - pull) * all := Int.mul_le_mul_of_nonneg_left h3.2 (by omega)
  have e3 : 0 ≤ pull * all := Int.mul_nonneg h2.1 (by omega)
  have e4 : (100 - pull) * all = 100 * all - pull * all := Int.sub_mul _ _ _
  split <;> omega
theorem CHP_e {all pull so a s0 : Int} (h1 : 1 ≤ all ∧ all ≤ 792) (h2 : 0 ≤ pull ∧ pull ≤ 100) (h3 : 0 ≤ so ∧ so ≤ all) : CHP all pull so a s0 = (((100 - pull) * so + (if a = s0 then pull * all else 0)) * 10) / all := by
  have b := CHP_b (a := a) (s0 := s0) h1 h2 h3
  unfold CHP
  rw [wr_R (x := ((100 - pull) * so + (if a = s0 then pull * all else 0)) * 10) ⟨by omega, by omega⟩, wr_R (x := all) ⟨by omega, by omega⟩]
  exact Int.tdiv_eq_ediv_of_nonneg (by omega)
theorem CHP_R {all pull so a s0 : Int} (h1 : 1 ≤ all ∧ all ≤ 792) (h2 : 0 ≤ pull ∧ pull ≤ 100) (h3 : 0 ≤ so ∧ so ≤ all) : 0 ≤ CHP all pull so a s0 ∧ CHP all pull so a s0 ≤ 1000 := by
  have b := CHP_b (a := a) (s0 := s0) h1 h2 h3
  rw [CHP_e h1 h2 h3]
  refine ⟨Int.ediv_nonneg (by omega) (by omega), ?_⟩
  exact Int.ediv_le_of_le_mul (by omega) (by omega)
/-- CHANCE of an answer a by LAW l, to QUESTION q, by these facts -/
def CHF (f fa : Nat → Int) (l : Int) (q : Nat) (a : Int) : Int :=
  if WS f fa l 8 = 0 then CHP 4 (WH f fa l 8) (if a = -1 then 0 else 1) a (SAID f q 0)
  else CHP (WS f fa l 8) (WH f fa l 8) (SOF (fun r => SAID f q (r : Int)) (fun r => WH f fa l (r : Int)) a 8) a (SAID f q 0)
theorem CHN_F {f : Nat → Int} {l c q how a : Int} : CHN f l c q how a = CHF f (FQ f c q how) l q.toNat a := rfl
theorem CHF_R {f fa : Nat → Int} {l a : Int} {q : Nat} : 0 ≤ CHF f fa l q a ∧ CHF f fa l q a ≤ 1000 := by
  have p := WH_R (f := f) (fa := fa) (l := l) (rule := 8)
  rw [if_pos rfl] at p
  have w := WS_R8 (f := f) (fa := fa) (l := l) 8 (by decide)
  have s := SOF_R (f := f) (fa := fa) (l := l) (a := a) (S := fun r => SAID f q (r : Int)) 8 (by decide)
  unfold CHF
  by_cases c : WS f fa l 8 = 0
  · rw [if_pos c]
    exact CHP_R ⟨by decide, by decide⟩ p (by split <;> omega)
  · rw [if_neg c]
    exact CHP_R ⟨by omega, by omega⟩ p s
theorem CHF_fa {f fa fa' : Nat → Int} {l a : Int} {q : Nat} (h : ∀ s : Nat, 1 ≤ s → s ≤ 6 → fa' s = fa s) : CHF f fa' l q a = CHF f fa l q a := by
  have e : (fun r : Nat => WH f fa' l (r : Int)) = fun r : Nat => WH f fa l (r : Int) := funext fun r => WH_fa h
  unfold CHF
  rw [WS_fa h, WH_fa h, e]
theorem VR_frS {S : List Nat} {D D1 : Nat → Nat → Int} (h : Fr S D D1) (hs : ∀ k, 88 ≤ k → k ≤ 100 → k ∉ S) : VR D1 = VR D := VR_fr (fun k a b j => h k (hs k a b) j)
theorem VR_x {D : Nat → Nat → Int} {c j : Nat} {x : Int} (h : c < 88) : VR (u2 D c j x) = VR D := VR_fr (fun k a _ i => u2_ne (by omega))
