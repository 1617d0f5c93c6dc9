/-! the code of a method in heaps: by place / 64, by place / 8, then row by row -/
abbrev am_Q : Type := List (List (List (Nat × am_I)))
def am_nth {α : Type} : List α → Nat → Option α
  | [], _ => none
  | a :: _, 0 => some a
  | _ :: l, n + 1 => am_nth l n
def am_f1 : List (List (Nat × am_I)) → List (Nat × am_I)
  | [] => []
  | b :: l => b ++ am_f1 l
def am_f2 : am_Q → List (Nat × am_I)
  | [] => []
  | a :: l => am_f1 a ++ am_f2 l
def am_fq (q : am_Q) (pc : Nat) : Option am_I := match am_nth q (pc / 64) with
  | some a => match am_nth a (pc / 8 % 8) with
    | some b => am_fet b pc
    | none => none
  | none => none
def am_k0 (x y : Nat) : List (Nat × am_I) → Bool
  | [] => true
  | (p, _) :: l => Nat.beq (p / 64) x && (Nat.beq (p / 8 % 8) y && am_k0 x y l)
def am_k1 (x : Nat) : Nat → List (List (Nat × am_I)) → Bool
  | _, [] => true
  | y, b :: l => am_k0 x y b && am_k1 x (y + 1) l
def am_k2 : Nat → am_Q → Bool
  | _, [] => true
  | x, a :: l => am_k1 x 0 a && am_k2 (x + 1) l
theorem bq_l {a b : Bool} (h : (a && b) = true) : a = true := by
  cases a
  · cases h
  · rfl
theorem bq_r {a b : Bool} (h : (a && b) = true) : b = true := by
  cases a
  · cases h
  · exact h
theorem am_fet_c0 {q pc : Nat} {j : am_I} {l : List (Nat × am_I)} (e : Nat.beq q pc = false) : am_fet ((q, j) :: l) pc = am_fet l pc := by
  have z := congrArg (fun z => cond z (some j) (am_fet l pc)) e
  exact z
theorem am_fet_c1 {q pc : Nat} {j : am_I} {l : List (Nat × am_I)} (e : Nat.beq q pc = true) : am_fet ((q, j) :: l) pc = some j := by
  have z := congrArg (fun z => cond z (some j) (am_fet l pc)) e
  exact z
theorem am_fet_ap1 : ∀ {l m : List (Nat × am_I)} {pc : Nat} {i : am_I}, am_fet l pc = some i → am_fet (l ++ m) pc = some i
  | [], _, _, _, h => by cases h
  | (q, j) :: l, m, pc, i, h => by
    by_cases e : Nat.beq q pc = true
    · rw [am_fet_c1 e] at h
      show am_fet ((q, j) :: (l ++ m)) pc = some i
      rw [am_fet_c1 e]
      exact h
    · have e2 := eq_false_of_ne_true e
      rw [am_fet_c0 e2] at h
      show am_fet ((q, j) :: (l ++ m)) pc = some i
      rw [am_fet_c0 e2]
      exact am_fet_ap1 h
theorem am_fet_ap0 : ∀ {l m : List (Nat × am_I)} {pc : Nat}, am_fet l pc = none → am_fet (l ++ m) pc = am_fet m pc
  | [], _, _, _ => rfl
  | (q, j) :: l, m, pc, h => by
    by_cases e : Nat.beq q pc = true
    · rw [am_fet_c1 e] at h
      cases h
    · have e2 := eq_false_of_ne_true e
      rw [am_fet_c0 e2] at h
      show am_fet ((q, j) :: (l ++ m)) pc = am_fet m pc
      rw [am_fet_c0 e2]
      exact am_fet_ap0 h
theorem am_k0_n {x y pc : Nat} (hn : ¬ (pc / 64 = x ∧ pc / 8 % 8 = y)) : ∀ {l : List (Nat × am_I)}, am_k0 x y l = true → am_fet l pc = none
  | [], _ => rfl
  | (p, j) :: l, h => by
    have e1 := Nat.eq_of_beq_eq_true (bq_l h)
    have e2 := Nat.eq_of_beq_eq_true (bq_l (bq_r h))
    by_cases e : Nat.beq p pc = true
    · have e3 := Nat.eq_of_beq_eq_true e
      subst e3
      exact absurd ⟨e1, e2⟩ hn
    · rw [am_fet_c0 (eq_false_of_ne_true e)]
      exact am_k0_n hn (bq_r (bq_r h))
theorem am_k1_n {x pc : Nat} (hx : ¬ pc / 64 = x) : ∀ {l : List (List (Nat × am_I))} {y : Nat}, am_k1 x y l = true → am_fet (am_f1 l) pc = none
  | [], _, _ => rfl
  | b0 :: l, y, hk => by
    have z : am_fet b0 pc = none := am_k0_n (fun z => hx z.1) (bq_l hk)
    exact (am_fet_ap0 z).trans (am_k1_n hx (bq_r hk))
theorem am_k1_f {x pc : Nat} {I : am_I} : ∀ {l : List (List (Nat × am_I))} {y : Nat} {b : List (Nat × am_I)}, am_k1 x y l = true → y ≤ pc / 8 % 8 → am_nth l (pc / 8 % 8 - y) = some b → am_fet b pc = some I → am_fet (am_f1 l) pc = some I
  | [], _, _, _, _, hn, _ => by
    have z : none = some _ := hn
    cases z
  | b0 :: l, y, b, hk, hy, hn, hf => by
    by_cases e : pc / 8 % 8 = y
    · have hb : b0 = b := by
        rw [e, Nat.sub_self] at hn
        exact Option.some.inj hn
      subst hb
      exact am_fet_ap1 hf
    · have h0 : am_fet b0 pc = none := am_k0_n (fun z => e z.2) (bq_l hk)
      have hn2 : am_nth l (pc / 8 % 8 - (y + 1)) = some b := by
        rw [show pc / 8 % 8 - y = (pc / 8 % 8 - (y + 1)) + 1 by omega] at hn
        exact hn
      exact (am_fet_ap0 h0).trans (am_k1_f (bq_r hk) (by omega) hn2 hf)
theorem am_k2_f {pc : Nat} {I : am_I} : ∀ {q : am_Q} {x : Nat} {a : List (List (Nat × am_I))} {b : List (Nat × am_I)}, am_k2 x q = true → x ≤ pc / 64 → am_nth q (pc / 64 - x) = some a → am_nth a (pc / 8 % 8) = some b → am_fet b pc = some I → am_fet (am_f2 q) pc = some I
  | [], _, _, _, _, _, hn, _, _ => by
    have z : none = some _ := hn
    cases z
  | a0 :: l, x, a, b, hk, hx, hn, hm, hf => by
    by_cases e : pc / 64 = x
    · have ha : a0 = a := by
        rw [e, Nat.sub_self] at hn
        exact Option.some.inj hn
      subst ha
      exact am_fet_ap1 (am_k1_f (y := 0) (bq_l hk) (Nat.zero_le _) hm hf)
    · have h0 : am_fet (am_f1 a0) pc = none := am_k1_n e (bq_l hk)
      have hn2 : am_nth l (pc / 64 - (x + 1)) = some a := by
        rw [show pc / 64 - x = (pc / 64 - (x + 1)) + 1 by omega] at hn
        exact hn
      exact (am_fet_ap0 h0).trans (am_k2_f (bq_r hk) (by omega) hn2 hm hf)
theorem am_fq_at {q : am_Q} {pc : Nat} {I : am_I} (hk : am_k2 0 q = true) (h : am_fq q pc = some I) : am_fet (am_f2 q) pc = some I := by
  unfold am_fq at h
  split at h
  · rename_i a ha
    split at h
    · rename_i b hb
      exact am_k2_f (x := 0) hk (Nat.zero_le _) ha hb h
    · cases h
  · cases h
