/-! CODE: what the lines of a LAW are kept as -/
def lst (g : Nat → Int) (a : Nat) : Nat → List Int
  | 0 => []
  | n + 1 => lst g a n ++ [g (a + n)]
theorem lst_c {g g' : Nat → Int} {a : Nat} : ∀ n : Nat, (∀ j, a ≤ j → j < a + n → g' j = g j) → lst g' a n = lst g a n
  | 0, _ => rfl
  | n + 1, h => by
    show lst g' a n ++ [g' (a + n)] = lst g a n ++ [g (a + n)]
    rw [lst_c n (fun j h1 h2 => h j h1 (by omega)), h _ (by omega) (by omega)]
theorem lst_l {g : Nat → Int} {a : Nat} : ∀ n : Nat, (lst g a n).length = n
  | 0 => rfl
  | n + 1 => by
    show (lst g a n ++ [g (a + n)]).length = n + 1
    rw [List.length_append, lst_l n]; rfl
theorem lst_a {g : Nat → Int} {a n : Nat} : ∀ m : Nat, lst g a (n + m) = lst g a n ++ lst g (a + n) m
  | 0 => by show lst g a n = lst g a n ++ []; rw [List.append_nil]
  | m + 1 => by
    show lst g a (n + m) ++ [g (a + (n + m))] = lst g a n ++ (lst g (a + n) m ++ [g (a + n + m)])
    rw [lst_a m, List.append_assoc, show a + (n + m) = a + n + m by omega]
/-- a step of the reference as the class has it -/
def stx (s v : Int) : List Int := if s = 0 then [v] else if s ≤ 6 then [-10 - s] else if s = 10 then [v, -4] else [6 - s]
def exl (g : Nat → Int) (a : Nat) : Nat → List Int
  | 0 => []
  | n + 1 => exl g a n ++ stx (g (2 * (a + n))) (g (2 * (a + n) + 1))
theorem exl_c {g g' : Nat → Int} {a : Nat} : ∀ n : Nat, (∀ j, 2 * a ≤ j → j < 2 * (a + n) → g' j = g j) → exl g' a n = exl g a n
  | 0, _ => rfl
  | n + 1, h => by
    show exl g' a n ++ stx (g' (2 * (a + n))) (g' (2 * (a + n) + 1)) = exl g a n ++ stx (g (2 * (a + n))) (g (2 * (a + n) + 1))
    rw [exl_c n (fun j h1 h2 => h j h1 (by omega)), h _ (by omega) (by omega), h _ (by omega) (by omega)]
theorem exl_a {g : Nat → Int} {a n : Nat} : ∀ m : Nat, exl g a (n + m) = exl g a n ++ exl g (a + n) m
  | 0 => by show exl g a n = exl g a n ++ []; rw [List.append_nil]
  | m + 1 => by
    show exl g a (n + m) ++ stx (g (2 * (a + (n + m)))) (g (2 * (a + (n + m)) + 1)) = exl g a n ++ (exl g (a + n) m ++ stx (g (2 * (a + n + m))) (g (2 * (a + n + m) + 1)))
    rw [exl_a m, List.append_assoc, show a + (n + m) = a + n + m by omega]
theorem stx_n {s v : Int} : ¬ stx s v = [] := by
  unfold stx
  (repeat' split) <;> exact fun h => by cases h
theorem exl_n {g : Nat → Int} {a n : Nat} (h : exl g a n = []) : n = 0 := by
  cases n with
  | zero => rfl
  | succ n =>
    have z : exl g a n ++ stx (g (2 * (a + n))) (g (2 * (a + n) + 1)) = [] := h
    exact absurd (List.append_eq_nil_iff.mp z).2 stx_n
/-! what is emitted, by the tokens -/
def eU (K V : Nat → Int) (i : Nat) : List Int := if K i = 2 then [V i] else [995 - K i]
def eD (V : Nat → Int) (i : Nat) : List Int := [V i, -4]
def fl (w : Int) : List Int := if w = 0 then [] else [w]
/-- the class: E behind its first U, where w waits -/
def eS (K V : Nat → Int) : Nat → Int → Nat → List Int
  | 0, w, _ => fl w
  | f + 1, w, i => if K i = 42 then eU K V (i + 1) ++ ([-3] ++ eS K V f w (i + 2)) else if K i = 47 then eD V (i + 1) ++ eS K V f w (i + 2) else if K i = 43 ∨ K i = 45 then fl w ++ (eU K V (i + 1) ++ eS K V f (if K i = 43 then -1 else -2) (i + 2)) else fl w
def eE (K V : Nat → Int) (i : Nat) : List Int := eU K V i ++ eS K V 600 0 (i + 1)
/-- the reference: T behind its first U, E behind its first T -/
def rP (K V : Nat → Int) : Nat → Nat → List Int
  | 0, _ => []
  | f + 1, i => if K i = 42 then eU K V (i + 1) ++ ([-3] ++ rP K V f (i + 2)) else if K i = 47 then eD V (i + 1) ++ rP K V f (i + 2) else []
def rT (K V : Nat → Int) (i : Nat) : List Int := eU K V i ++ rP K V 600 (i + 1)
def rQ (K V : Nat → Int) : Nat → Nat → List Int
  | 0, _ => []
  | f + 1, i => if (K i = 43 ∨ K i = 45) ∧ (gT K V (i + 1)).1 = 0 then rT K V (i + 1) ++ ([if K i = 43 then -1 else -2] ++ rQ K V f (gT K V (i + 1)).2) else []
def rE (K V : Nat → Int) (i : Nat) : List Int := rT K V i ++ rQ K V 600 (gT K V i).2
theorem gU_at {K : Nat → Int} {i : Nat} (h : (gU K i).1 = 0) : gU K i = (0, i + 1) := by
  unfold gU at h ⊢
  split at h
  · rename_i c; rw [if_pos c]
  · cases h
theorem gD_at {K V : Nat → Int} {i : Nat} (h : (gD K V i).1 = 0) : gD K V i = (0, i + 1) := by
  unfold gD at h ⊢
  split at h
  · rename_i c; rw [if_pos c]
    split at h
    · cases h
    · rename_i c2; rw [if_neg c2]
  · cases h
theorem gB_1 {r : GR} {f : Nat → GR} (h : (gB r f).1 = 0) : r.1 = 0 ∧ (f r.2).1 = 0 := by
  by_cases c : r.1 = 0
  · rw [gB_ok c] at h; exact ⟨c, h⟩
  · rw [gB_no c] at h; exact absurd h c
theorem eS_f {K V : Nat → Int} {t : Nat} (h : KZ K t) : ∀ (k f f' : Nat) (w : Int) (i : Nat), t + 1 ≤ i + k → t + 1 ≤ i + f → t + 1 ≤ i + f' → eS K V f w i = eS K V f' w i
  | k, 0, f', w, i, h0, h1, h2 => by
    have e : K i = 0 := h i (by omega)
    cases f' with
    | zero => rfl
    | succ f' =>
      show fl w = (if _ then _ else if _ then _ else if _ then _ else _)
      rw [if_neg (by omega), if_neg (by omega), if_neg (by omega)]
  | k, f + 1, 0, w, i, h0, h1, h2 => by
    have e : K i = 0 := h i (by omega)
    show (if _ then _ else if _ then _ else if _ then _ else _) = fl w
    rw [if_neg (by omega), if_neg (by omega), if_neg (by omega)]
  | 0, f + 1, f' + 1, w, i, h0, h1, h2 => by
    have e : K i = 0 := h i (by omega)
    show (if _ then _ else if _ then _ else if _ then _ else _) = (if _ then _ else if _ then _ else if _ then _ else _)
    rw [if_neg (by omega), if_neg (by omega), if_neg (by omega), if_neg (by omega), if_neg (by omega), if_neg (by omega)]
  | k + 1, f + 1, f' + 1, w, i, h0, h1, h2 => by
    show (if _ then _ else if _ then _ else if _ then _ else _) = (if _ then _ else if _ then _ else if _ then _ else _)
    rw [eS_f h k f f' w (i + 2) (by omega) (by omega) (by omega), eS_f h k f f' (if K i = 43 then -1 else -2) (i + 2) (by omega) (by omega) (by omega)]
theorem eS_u {K V : Nat → Int} {t i : Nat} {w : Int} (h : KZ K t) (ht : t ≤ 501) : eS K V 600 w i = if K i = 42 then eU K V (i + 1) ++ ([-3] ++ eS K V 600 w (i + 2)) else if K i = 47 then eD V (i + 1) ++ eS K V 600 w (i + 2) else if K i = 43 ∨ K i = 45 then fl w ++ (eU K V (i + 1) ++ eS K V 600 (if K i = 43 then -1 else -2) (i + 2)) else fl w := by
  rw [eS_f h (t + 1) 600 601 w i (by omega) (by omega) (by omega)]
  rfl
theorem rP_f {K V : Nat → Int} {t : Nat} (h : KZ K t) : ∀ (k f f' i : Nat), t + 1 ≤ i + k → t + 1 ≤ i + f → t + 1 ≤ i + f' → rP K V f i = rP K V f' i
  | k, 0, f', i, h0, h1, h2 => by
    have e : K i = 0 := h i (by omega)
    cases f' with
    | zero => rfl
    | succ f' =>
      show [] = (if _ then _ else if _ then _ else _)
      rw [if_neg (by omega), if_neg (by omega)]
  | k, f + 1, 0, i, h0, h1, h2 => by
    have e : K i = 0 := h i (by omega)
    show (if _ then _ else if _ then _ else _) = []
    rw [if_neg (by omega), if_neg (by omega)]
  | 0, f + 1, f' + 1, i, h0, h1, h2 => by
    have e : K i = 0 := h i (by omega)
    show (if _ then _ else if _ then _ else _) = (if _ then _ else if _ then _ else _)
    rw [if_neg (by omega), if_neg (by omega), if_neg (by omega), if_neg (by omega)]
  | k + 1, f + 1, f' + 1, i, h0, h1, h2 => by
    show (if _ then _ else if _ then _ else _) = (if _ then _ else if _ then _ else _)
    rw [rP_f h k f f' (i + 2) (by omega) (by omega) (by omega)]
theorem rP_u {K V : Nat → Int} {t i : Nat} (h : KZ K t) (ht : t ≤ 501) : rP K V 600 i = if K i = 42 then eU K V (i + 1) ++ ([-3] ++ rP K V 600 (i + 2)) else if K i = 47 then eD V (i + 1) ++ rP K V 600 (i + 2) else [] := by
  rw [rP_f h (t + 1) 600 601 i (by omega) (by omega) (by omega)]
  rfl
theorem rQ_f {K V : Nat → Int} {t : Nat} (h : KZ K t) : ∀ (k f f' i : Nat), t + 1 ≤ i + k → t + 1 ≤ i + f → t + 1 ≤ i + f' → rQ K V f i = rQ K V f' i
  | k, 0, f', i, h0, h1, h2 => by
    have e : K i = 0 := h i (by omega)
    cases f' with
    | zero => rfl
    | succ f' =>
      show [] = (if _ then _ else _)
      rw [if_neg (by omega)]
  | k, f + 1, 0, i, h0, h1, h2 => by
    have e : K i = 0 := h i (by omega)
    show (if _ then _ else _) = []
    rw [if_neg (by omega)]
  | 0, f + 1, f' + 1, i, h0, h1, h2 => by
    have e : K i = 0 := h i (by omega)
    show (if _ then _ else _) = (if _ then _ else _)
    rw [if_neg (by omega), if_neg (by omega)]
  | k + 1, f + 1, f' + 1, i, h0, h1, h2 => by
    show (if _ then _ else _) = (if _ then _ else _)
    by_cases c : (K i = 43 ∨ K i = 45) ∧ (gT K V (i + 1)).1 = 0
    · have m := gT_M (K := K) (V := V) (i := i + 1) h c.2
      rw [if_pos c, if_pos c, rQ_f h k f f' _ (by have : (gT K V (i + 1)).2 = (gB (gU K (i + 1)) (gP K V 600)).2 := rfl; omega) (by have : (gT K V (i + 1)).2 = (gB (gU K (i + 1)) (gP K V 600)).2 := rfl; omega) (by have : (gT K V (i + 1)).2 = (gB (gU K (i + 1)) (gP K V 600)).2 := rfl; omega)]
    · rw [if_neg c, if_neg c]
theorem rQ_u {K V : Nat → Int} {t i : Nat} (h : KZ K t) (ht : t ≤ 501) : rQ K V 600 i = if (K i = 43 ∨ K i = 45) ∧ (gT K V (i + 1)).1 = 0 then rT K V (i + 1) ++ ([if K i = 43 then -1 else -2] ++ rQ K V 600 (gT K V (i + 1)).2) else [] := by
  rw [rQ_f h (t + 1) 600 601 i (by omega) (by omega) (by omega)]
  rfl
/-- E in one is E T by T -/
theorem eS_PQ {K V : Nat → Int} {t : Nat} (h : KZ K t) (ht : t ≤ 501) : ∀ (k i : Nat) (w : Int), t + 1 ≤ i + k → i ≤ t → (gS K V 600 i).1 = 0 → eS K V 600 w i = rP K V 600 i ++ (fl w ++ rQ K V 600 (gP K V 600 i).2)
  | 0, i, w, h0, hi, _ => by omega
  | k + 1, i, w, h0, hi, hs => by
    rw [eS_u h ht, rP_u h ht, gP_u h ht hi]
    rw [gS_u h ht hi] at hs
    by_cases c1 : K i = 42
    · rw [if_pos (.inl c1)] at hs
      have u := gB_1 hs
      have eu := gU_at u.1
      have mu := gU_M (K := K) (i := i + 1) h u.1
      rw [eu] at mu
      have u2 := u.2
      rw [eu] at u2
      rw [if_pos c1, if_pos c1, if_pos c1, eu, gB_0]
      rw [eS_PQ h ht k (i + 2) w (by omega) mu.2 u2]
      simp only [List.append_assoc]
    · by_cases c2 : K i = 47
      · rw [if_neg (by omega), if_pos c2] at hs
        have u := gB_1 hs
        have eu := gD_at u.1
        have mu := gD_M (K := K) (V := V) (i := i + 1) h u.1
        rw [eu] at mu
        have u2 := u.2
        rw [eu] at u2
        rw [if_neg c1, if_pos c2, if_neg c1, if_pos c2, if_neg c1, if_pos c2, eu, gB_0]
        rw [eS_PQ h ht k (i + 2) w (by omega) mu.2 u2]
        simp only [List.append_assoc]
      · rw [if_neg c1, if_neg c2, if_neg c1, if_neg c2, if_neg c1, if_neg c2]
        rw [rQ_u h ht]
        by_cases c3 : K i = 43 ∨ K i = 45
        · rw [if_pos (.inr c3)] at hs
          have u := gB_1 hs
          have eu := gU_at u.1
          have mu := gU_M (K := K) (i := i + 1) h u.1
          rw [eu] at mu
          have u2 := u.2
          rw [eu] at u2
          have s2 := u2
          rw [gS_PQ h ht (t + 1) (i + 2) (by omega) mu.2] at s2
          have g2 := gB_1 s2
          have et : gT K V (i + 1) = gP K V 600 (i + 2) := by unfold gT; rw [eu, gB_0]
          rw [if_pos c3, if_pos (show (K i = 43 ∨ K i = 45) ∧ (gT K V (i + 1)).1 = 0 from ⟨c3, by rw [et]; exact g2.1⟩), et]
          rw [eS_PQ h ht k (i + 2) _ (by omega) mu.2 u2]
          unfold rT
          have ef : fl (if K i = 43 then (-1 : Int) else -2) = [if K i = 43 then -1 else -2] := by
            unfold fl; by_cases c4 : K i = 43
            · rw [if_pos c4, if_neg (by decide)]
            · rw [if_neg c4, if_neg (by decide)]
          rw [ef]
          simp only [List.append_assoc, List.nil_append]
        · rw [if_neg c3, if_neg (fun z => c3 z.1)]
          simp only [List.append_nil, List.nil_append]
theorem eE_rE {K V : Nat → Int} {t i : Nat} (h : KZ K t) (ht : t ≤ 501) (hs : (gE K V i).1 = 0) : eE K V i = rE K V i := by
  have u := gB_1 hs
  have eu := gU_at u.1
  have mu := gU_M (K := K) (i := i) h u.1
  rw [eu] at mu
  have u2 := u.2
  rw [eu] at u2
  unfold eE rE rT
  rw [eS_PQ h ht (t + 1) (i + 1) 0 (by omega) mu.2 u2]
  have et : gT K V i = gP K V 600 (i + 1) := by unfold gT; rw [eu, gB_0]
  rw [et]
  show _ ++ (_ ++ ([] ++ _)) = _
  simp only [List.append_assoc, List.nil_append]
/-! conditions -/
def opc (k : Int) : Int := if k = 60 then -5 else if k = 61 then -6 else -7
def eC1 (K V : Nat → Int) (i : Nat) : List Int := eE K V i ++ (eE K V ((gE K V i).2 + 1) ++ [opc (K (gE K V i).2)])
def flb (w : Int) : List Int := if w = 0 then [] else [-10]
/-- the class: behind the first C, where an or waits -/
def eL (K : Nat → Int) (e : Nat → List Int) (c : Nat → GR) : Nat → Int → Nat → List Int
  | 0, w, _ => flb w
  | f + 1, w, i => if K i = 1004 ∧ (c (i + 1)).1 = 0 then e (i + 1) ++ ([-9] ++ eL K e c f w (c (i + 1)).2) else if K i = 1003 ∧ (c (i + 1)).1 = 0 then flb w ++ (e (i + 1) ++ eL K e c f 1 (c (i + 1)).2) else flb w
def eC (K V : Nat → Int) : Nat → Nat → List Int
  | 0, i => eC1 K V i
  | d + 1, i => if K i = 1005 then eC K V d (i + 1) ++ [-8] else if K i = 40 then eC K V d (i + 1) ++ eL K (eC K V d) (gC K V d) 600 0 (gC K V d (i + 1)).2 else eC1 K V i
def eB (K V : Nat → Int) (d i : Nat) : List Int := eC K V d i ++ eL K (eC K V d) (gC K V d) 600 0 (gC K V d i).2
def rC1 (K V : Nat → Int) (i : Nat) : List Int := rE K V i ++ (rE K V ((gE K V i).2 + 1) ++ [opc (K (gE K V i).2)])
def rN (K : Nat → Int) (e : Nat → List Int) (c : Nat → GR) : Nat → Nat → List Int
  | 0, _ => []
  | f + 1, i => if K i = 1004 ∧ (c (i + 1)).1 = 0 then e (i + 1) ++ ([-9] ++ rN K e c f (c (i + 1)).2) else []
def rEv (K : Nat → Int) (e : Nat → List Int) (c : Nat → GR) (i : Nat) : List Int := e i ++ rN K e c 600 (c i).2
def rO (K : Nat → Int) (e : Nat → List Int) (c : Nat → GR) : Nat → Nat → List Int
  | 0, _ => []
  | f + 1, i => if K i = 1003 ∧ (gB (c (i + 1)) (gN K c 600)).1 = 0 then rEv K e c (i + 1) ++ ([-10] ++ rO K e c f (gB (c (i + 1)) (gN K c 600)).2) else []
def rC (K V : Nat → Int) : Nat → Nat → List Int
  | 0, i => rC1 K V i
  | d + 1, i => if K i = 1005 then rC K V d (i + 1) ++ [-8] else if K i = 40 then rEv K (rC K V d) (gC K V d) (i + 1) ++ rO K (rC K V d) (gC K V d) 600 (gB (gC K V d (i + 1)) (gN K (gC K V d) 600)).2 else rC1 K V i
def rB (K V : Nat → Int) (d i : Nat) : List Int := rEv K (rC K V d) (gC K V d) i ++ rO K (rC K V d) (gC K V d) 600 (gB (gC K V d i) (gN K (gC K V d) 600)).2
theorem KZn {K : Nat → Int} {t i : Nat} {k : Int} (h : KZ K t) (hi : t ≤ i) (hk : ¬ k = 0) : ¬ K i = k := fun z => hk (z.symm.trans (h i hi))
theorem eL_f {K : Nat → Int} {e : Nat → List Int} {c : Nat → GR} {t : Nat} (hc : ∀ i, gM (c i) i t) : ∀ (k f f' : Nat) (w : Int) (i : Nat), t + 1 ≤ i + k → t + 1 ≤ i + f → t + 1 ≤ i + f' → eL K e c f w i = eL K e c f' w i
  | k, 0, f', w, i, h0, h1, h2 => by
    have n : ¬ (c (i + 1)).1 = 0 := fun z => by have := hc (i + 1) z; omega
    cases f' with
    | zero => rfl
    | succ f' =>
      show flb w = (if _ then _ else if _ then _ else _)
      rw [if_neg (fun z => n z.2), if_neg (fun z => n z.2)]
  | k, f + 1, 0, w, i, h0, h1, h2 => by
    have n : ¬ (c (i + 1)).1 = 0 := fun z => by have := hc (i + 1) z; omega
    show (if _ then _ else if _ then _ else _) = flb w
    rw [if_neg (fun z => n z.2), if_neg (fun z => n z.2)]
  | 0, f + 1, f' + 1, w, i, h0, h1, h2 => by
    have n : ¬ (c (i + 1)).1 = 0 := fun z => by have := hc (i + 1) z; omega
    show (if _ then _ else if _ then _ else _) = (if _ then _ else if _ then _ else _)
    rw [if_neg (fun z => n z.2), if_neg (fun z => n z.2), if_neg (fun z => n z.2), if_neg (fun z => n z.2)]
  | k + 1, f + 1, f' + 1, w, i, h0, h1, h2 => by
    show (if _ then _ else if _ then _ else _) = (if _ then _ else if _ then _ else _)
    by_cases z : (c (i + 1)).1 = 0
    · have m := hc (i + 1) z
      rw [eL_f hc k f f' w _ (by omega) (by omega) (by omega), eL_f hc k f f' 1 _ (by omega) (by omega) (by omega)]
    · rw [if_neg (fun y => z y.2), if_neg (fun y => z y.2), if_neg (fun y => z y.2), if_neg (fun y => z y.2)]
theorem eL_u {K : Nat → Int} {e : Nat → List Int} {c : Nat → GR} {t i : Nat} {w : Int} (hc : ∀ i, gM (c i) i t) (ht : t ≤ 501) : eL K e c 600 w i = if K i = 1004 ∧ (c (i + 1)).1 = 0 then e (i + 1) ++ ([-9] ++ eL K e c 600 w (c (i + 1)).2) else if K i = 1003 ∧ (c (i + 1)).1 = 0 then flb w ++ (e (i + 1) ++ eL K e c 600 1 (c (i + 1)).2) else flb w := by
  rw [eL_f hc (t + 1) 600 601 w i (by omega) (by omega) (by omega)]
  rfl
theorem rN_f {K : Nat → Int} {e : Nat → List Int} {c : Nat → GR} {t : Nat} (hc : ∀ i, gM (c i) i t) : ∀ (k f f' : Nat) (i : Nat), t + 1 ≤ i + k → t + 1 ≤ i + f → t + 1 ≤ i + f' → rN K e c f i = rN K e c f' i
  | k, 0, f', i, h0, h1, h2 => by
    have n : ¬ (c (i + 1)).1 = 0 := fun z => by have := hc (i + 1) z; omega
    cases f' with
    | zero => rfl
    | succ f' =>
      show [] = (if _ then _ else _)
      rw [if_neg (fun z => n z.2)]
  | k, f + 1, 0, i, h0, h1, h2 => by
    have n : ¬ (c (i + 1)).1 = 0 := fun z => by have := hc (i + 1) z; omega
    show (if _ then _ else _) = []
    rw [if_neg (fun z => n z.2)]
  | 0, f + 1, f' + 1, i, h0, h1, h2 => by
    have n : ¬ (c (i + 1)).1 = 0 := fun z => by have := hc (i + 1) z; omega
    show (if _ then _ else _) = (if _ then _ else _)
    rw [if_neg (fun z => n z.2), if_neg (fun z => n z.2)]
  | k + 1, f + 1, f' + 1, i, h0, h1, h2 => by
    show (if _ then _ else _) = (if _ then _ else _)
    by_cases z : (c (i + 1)).1 = 0
    · have m := hc (i + 1) z
      rw [rN_f hc k f f' _ (by omega) (by omega) (by omega)]
    · rw [if_neg (fun y => z y.2), if_neg (fun y => z y.2)]
theorem rN_u {K : Nat → Int} {e : Nat → List Int} {c : Nat → GR} {t i : Nat} (hc : ∀ i, gM (c i) i t) (ht : t ≤ 501) : rN K e c 600 i = if K i = 1004 ∧ (c (i + 1)).1 = 0 then e (i + 1) ++ ([-9] ++ rN K e c 600 (c (i + 1)).2) else [] := by
  rw [rN_f hc (t + 1) 600 601 i (by omega) (by omega) (by omega)]
  rfl
theorem gNM {K : Nat → Int} {c : Nat → GR} {t i : Nat} (hc : ∀ i, gM (c i) i t) : gM (gB (c i) (gN K c 600)) i t := gB_M (hc i) (fun j _ h2 => gN_W hc 600 j h2)
theorem rO_f {K : Nat → Int} {e : Nat → List Int} {c : Nat → GR} {t : Nat} (hc : ∀ i, gM (c i) i t) : ∀ (k f f' : Nat) (i : Nat), t + 1 ≤ i + k → t + 1 ≤ i + f → t + 1 ≤ i + f' → rO K e c f i = rO K e c f' i
  | k, 0, f', i, h0, h1, h2 => by
    have n : ¬ (gB (c (i + 1)) (gN K c 600)).1 = 0 := fun z => by have := gNM (K := K) hc z; omega
    cases f' with
    | zero => rfl
    | succ f' =>
      show [] = (if _ then _ else _)
      rw [if_neg (fun z => n z.2)]
  | k, f + 1, 0, i, h0, h1, h2 => by
    have n : ¬ (gB (c (i + 1)) (gN K c 600)).1 = 0 := fun z => by have := gNM (K := K) hc z; omega
    show (if _ then _ else _) = []
    rw [if_neg (fun z => n z.2)]
  | 0, f + 1, f' + 1, i, h0, h1, h2 => by
    have n : ¬ (gB (c (i + 1)) (gN K c 600)).1 = 0 := fun z => by have := gNM (K := K) hc z; omega
    show (if _ then _ else _) = (if _ then _ else _)
    rw [if_neg (fun z => n z.2), if_neg (fun z => n z.2)]
  | k + 1, f + 1, f' + 1, i, h0, h1, h2 => by
    show (if _ then _ else _) = (if _ then _ else _)
    by_cases z : (gB (c (i + 1)) (gN K c 600)).1 = 0
    · have m := gNM (K := K) hc z
      rw [rO_f hc k f f' _ (by omega) (by omega) (by omega)]
    · rw [if_neg (fun y => z y.2), if_neg (fun y => z y.2)]
theorem rO_u {K : Nat → Int} {e : Nat → List Int} {c : Nat → GR} {t i : Nat} (hc : ∀ i, gM (c i) i t) (ht : t ≤ 501) : rO K e c 600 i = if K i = 1003 ∧ (gB (c (i + 1)) (gN K c 600)).1 = 0 then rEv K e c (i + 1) ++ ([-10] ++ rO K e c 600 (gB (c (i + 1)) (gN K c 600)).2) else [] := by
  rw [rO_f hc (t + 1) 600 601 i (by omega) (by omega) (by omega)]
  rfl
/-- the class's ands and ors are the reference's -/
theorem eL_NO {K : Nat → Int} {e r : Nat → List Int} {c : Nat → GR} {t : Nat} (hc : ∀ i, gM (c i) i t) (ht : t ≤ 501) (he : ∀ i, (c i).1 = 0 → e i = r i) : ∀ (k i : Nat) (w : Int), t + 1 ≤ i + k → i ≤ t → (gL K c 600 i).1 = 0 → eL K e c 600 w i = rN K r c 600 i ++ (flb w ++ rO K r c 600 (gN K c 600 i).2)
  | 0, i, w, h0, hi, _ => by omega
  | k + 1, i, w, h0, hi, hs => by
    rw [eL_u hc ht, rN_u hc ht, gN_u hc ht hi]
    rw [gL_u hc ht hi] at hs
    by_cases c1 : K i = 1004
    · rw [if_pos (.inl c1)] at hs
      have u := gB_1 hs
      have m := hc (i + 1) u.1
      rw [if_pos ⟨c1, u.1⟩, if_pos ⟨c1, u.1⟩, if_pos c1, gB_ok u.1, he _ u.1]
      rw [eL_NO hc ht he k _ w (by omega) m.2 u.2]
      simp only [List.append_assoc]
    · have n1 : ¬ (K i = 1004 ∧ (c (i + 1)).1 = 0) := fun z => c1 z.1
      simp only [if_neg n1, if_neg c1]
      rw [rO_u hc ht]
      by_cases c3 : K i = 1003
      · rw [if_pos (.inr c3)] at hs
        have u := gB_1 hs
        have m := hc (i + 1) u.1
        have s2 := u.2
        rw [gL_NO hc ht (t + 1) _ (by omega) m.2] at s2
        have g2 := gB_1 s2
        have eo : gB (c (i + 1)) (gN K c 600) = gN K c 600 (c (i + 1)).2 := gB_ok u.1
        rw [if_pos ⟨c3, u.1⟩, if_pos ⟨c3, by rw [eo]; exact g2.1⟩, eo, he _ u.1]
        rw [eL_NO hc ht he k _ 1 (by omega) m.2 u.2]
        unfold rEv
        rw [show flb 1 = [-10] from rfl]
        simp only [List.append_assoc, List.nil_append]
      · rw [if_neg (fun z => c3 z.1), if_neg (fun z => c3 z.1)]
        simp only [List.append_nil, List.nil_append]
theorem eC1_rC1 {K V : Nat → Int} {t i : Nat} (h : KZ K t) (ht : t ≤ 501) (hs : (gC1 K V i).1 = 0) : eC1 K V i = rC1 K V i := by
  have u := gB_1 hs
  have u2 : (gE K V ((gE K V i).2 + 1)).1 = 0 := by
    have z := u.2
    by_cases c : K (gE K V i).2 = 60 ∨ K (gE K V i).2 = 61 ∨ K (gE K V i).2 = 62
    · rw [if_pos c] at z; exact z
    · rw [if_neg c] at z; cases z
  unfold eC1 rC1
  rw [eE_rE h ht u.1, eE_rE h ht u2]
theorem eC_rC {K V : Nat → Int} {t : Nat} (h : KZ K t) (ht : t ≤ 501) : ∀ d i, (gC K V d i).1 = 0 → eC K V d i = rC K V d i
  | 0, i, hs => by
    unfold gC at hs
    by_cases c : K i = 1005 ∨ K i = 40
    · rw [if_pos c] at hs; cases hs
    · rw [if_neg c] at hs; exact eC1_rC1 h ht hs
  | d + 1, i, hs => by
    have hc := gC_M (V := V) h d
    have he := eC_rC (V := V) h ht d
    show (if _ then _ else if _ then _ else _) = (if _ then _ else if _ then _ else _)
    by_cases c : K i = 1005
    · rw [gC_n c] at hs
      rw [if_pos c, if_pos c, he _ hs]
    · rw [if_neg c, if_neg c]
      by_cases c2 : K i = 40
      · rw [gC_p c2] at hs
        have u := (gB_1 hs).1
        have u1 := gB_1 u
        have m := hc (i + 1) u1.1
        rw [if_pos c2, if_pos c2, he _ u1.1, eL_NO hc ht he (t + 1) _ 0 (by omega) m.2 u1.2]
        unfold rEv
        rw [show gB (gC K V d (i + 1)) (gN K (gC K V d) 600) = gN K (gC K V d) 600 (gC K V d (i + 1)).2 from gB_ok u1.1, show flb 0 = [] from rfl]
        simp only [List.append_assoc, List.nil_append]
      · rw [if_neg c2, if_neg c2]
        rw [gC_1 c c2] at hs
        exact eC1_rC1 h ht hs
theorem eB_rB {K V : Nat → Int} {t d i : Nat} (h : KZ K t) (ht : t ≤ 501) (hs : (gB_ K V d i).1 = 0) : eB K V d i = rB K V d i := by
  have hc := gC_M (V := V) h d
  have u := gB_1 hs
  have m := hc i u.1
  unfold eB rB rEv
  rw [eC_rC h ht d i u.1, eL_NO hc ht (eC_rC h ht d) (t + 1) _ 0 (by omega) m.2 u.2, show gB (gC K V d i) (gN K (gC K V d) 600) = gN K (gC K V d) 600 (gC K V d i).2 from gB_ok u.1, show flb 0 = [] from rfl]
  simp only [List.append_assoc, List.nil_append]
/-! what the class's code comes to: gv what is given, k the pile -/
def wkd (op a b : Int) : Int := if op = -1 then a + b else if op = -2 then a - b else if op = -3 then a * b else if op = -4 then (if 0 < b then (wr a).tdiv (wr b) else 0) else if op = -5 then (if a < b then 1 else 0) else if op = -6 then (if a = b then 1 else 0) else if op = -7 then (if b < a then 1 else 0) else if op = -9 then am_and a b else if op = -10 then am_or a b else 0
def cbn (op : Int) (k : List Int) : List Int :=
  match k with
  | b :: a :: r => wr (wkd op a b) :: r
  | r => r
def cnt (k : List Int) : List Int :=
  match k with
  | a :: r => wr (1 - a) :: r
  | [] => []
def cst (gv : Nat → Int) (op : Int) (k : List Int) : List Int :=
  if 0 ≤ op then op :: k else if op ≤ -11 then gv (-11 - op).toNat :: k else if op = -8 then cnt k else cbn op k
/-- with no more than 64 on the pile -/
def cstB (gv : Nat → Int) (op : Int) (k : List Int) : List Int :=
  if 0 ≤ op ∨ op ≤ -11 then (if k.length < 64 then cst gv op k else k) else cst gv op k
def cev (gv : Nat → Int) : List Int → List Int → List Int
  | [], k => k
  | op :: l, k => cev gv l (cst gv op k)
def cevB (gv : Nat → Int) : List Int → List Int → List Int
  | [], k => k
  | op :: l, k => cevB gv l (cstB gv op k)
theorem cev_a {gv : Nat → Int} : ∀ (l m k : List Int), cev gv (l ++ m) k = cev gv m (cev gv l k)
  | [], m, k => rfl
  | op :: l, m, k => by show cev gv (l ++ m) _ = cev gv m (cev gv l _); exact cev_a l m _
theorem cevB_a {gv : Nat → Int} : ∀ (l m k : List Int), cevB gv (l ++ m) k = cevB gv m (cevB gv l k)
  | [], m, k => rfl
  | op :: l, m, k => by show cevB gv (l ++ m) _ = cevB gv m (cevB gv l _); exact cevB_a l m _
/-- a piece that wants no more than m places, and leaves one more -/
def BD (gv : Nat → Int) (l : List Int) (m : Nat) : Prop := ∀ k : List Int, k.length + m ≤ 64 → cevB gv l k = cev gv l k ∧ (cev gv l k).length = k.length + 1
theorem BD_m {gv : Nat → Int} {l : List Int} {m n : Nat} (h : BD gv l m) (hn : m ≤ n) : BD gv l n := fun k hk => h k (by omega)
theorem BD_1 {gv : Nat → Int} {op : Int} (h : 0 ≤ op ∨ op ≤ -11) : BD gv [op] 1 := by
  intro k hk
  show cstB gv op k = cst gv op k ∧ (cst gv op k).length = k.length + 1
  unfold cstB
  rw [if_pos h, if_pos (by omega)]
  refine ⟨rfl, ?_⟩
  unfold cst
  by_cases c : 0 ≤ op
  · rw [if_pos c]; rfl
  · rw [if_neg c, if_pos (by omega)]; rfl
def isb (op : Int) : Prop := (-10 ≤ op ∧ op ≤ -1) ∧ ¬ op = -8
theorem cst_b {gv : Nat → Int} {op a b : Int} {r : List Int} (h : isb op) : cst gv op (b :: a :: r) = wr (wkd op a b) :: r ∧ cstB gv op (b :: a :: r) = wr (wkd op a b) :: r := by
  unfold isb at h
  have e : cst gv op (b :: a :: r) = wr (wkd op a b) :: r := by
    unfold cst
    rw [if_neg (by omega), if_neg (by omega), if_neg (by omega)]
    rfl
  refine ⟨e, ?_⟩
  unfold cstB
  rw [if_neg (by omega), e]
theorem len2 {k : List Int} {n : Nat} (h : k.length = n + 2) : ∃ b a r, k = b :: a :: r ∧ r.length = n := by
  match k, h with
  | b :: a :: r, h => exact ⟨b, a, r, rfl, by simpa using h⟩
theorem BD_b {gv : Nat → Int} {l1 l2 : List Int} {op : Int} {m : Nat} (h1 : BD gv l1 m) (h2 : BD gv l2 m) (h : isb op) : BD gv (l1 ++ (l2 ++ [op])) (m + 1) := by
  intro k hk
  have a1 := h1 k (by omega)
  have a2 := h2 (cev gv l1 k) (by omega)
  rw [cevB_a, cevB_a, cev_a, cev_a, a1.1, a2.1]
  obtain ⟨b, a, r, e, er⟩ := len2 (n := k.length) (by omega : (cev gv l2 (cev gv l1 k)).length = k.length + 2)
  rw [e]
  show cstB gv op (b :: a :: r) = cst gv op (b :: a :: r) ∧ (cst gv op (b :: a :: r)).length = _
  rw [(cst_b h).1, (cst_b h).2]
  exact ⟨rfl, by rw [List.length_cons]; omega⟩
theorem BD_n {gv : Nat → Int} {l : List Int} {m : Nat} (h1 : BD gv l m) : BD gv (l ++ [-8]) m := by
  intro k hk
  have a1 := h1 k hk
  rw [cevB_a, cev_a, a1.1]
  show cstB gv (-8) _ = cst gv (-8) _ ∧ (cst gv (-8) _).length = _
  have e : ∀ q, cstB gv (-8) q = cst gv (-8) q := fun q => by unfold cstB; rw [if_neg (by omega)]
  refine ⟨e _, ?_⟩
  have el : (cev gv l k).length = k.length + 1 := a1.2
  unfold cst
  rw [if_neg (by decide), if_neg (by decide), if_pos rfl]
  match cev gv l k, el with
  | a :: r, el => exact el
/-- a piece before, more behind: what loops go by -/
theorem BD_U {gv : Nat → Int} {K V : Nat → Int} {i : Nat} (h : (gU K i).1 = 0) (hv : K i = 2 → 0 ≤ V i) : BD gv (eU K V i) 1 := by
  unfold gU at h
  unfold eU
  by_cases c : K i = 2
  · rw [if_pos c]; exact BD_1 (.inl (hv c))
  · rw [if_neg c]
    by_cases c2 : K i = 2 ∨ (1006 ≤ K i ∧ K i ≤ 1011)
    · exact BD_1 (.inr (by omega))
    · rw [if_neg c2] at h; cases h
theorem BD_P {gv K V : Nat → Int} {t : Nat} (h : KZ K t) (ht : t ≤ 501) (hv : ∀ i, K i = 2 → 0 ≤ V i) : ∀ (k i : Nat) (l : List Int), t + 1 ≤ i + k → i ≤ t → (gP K V 600 i).1 = 0 → BD gv l 2 → BD gv (l ++ rP K V 600 i) 2
  | 0, i, l, h0, hi, _, _ => by omega
  | k + 1, i, l, h0, hi, hs, hl => by
    rw [rP_u h ht]
    rw [gP_u h ht hi] at hs
    by_cases c1 : K i = 42
    · rw [if_pos c1] at hs
      have u := gB_1 hs
      have eu := gU_at u.1
      have mu := gU_M (K := K) (i := i + 1) h u.1
      rw [eu] at mu
      have u2 := u.2
      rw [eu] at u2
      rw [if_pos c1]
      have z := BD_P (gv := gv) h ht hv k (i + 2) (l ++ (eU K V (i + 1) ++ [-3])) (by omega) mu.2 u2 ?_
      · simpa only [List.append_assoc] using z
      · intro q hq
        have a1 := hl q hq
        have bu := BD_U (gv := gv) u.1 (hv (i + 1))
        have a2 := bu (cev gv l q) (by omega)
        rw [cevB_a, cevB_a, cev_a, cev_a, a1.1, a2.1]
        obtain ⟨b, a, r, e, er⟩ := len2 (n := q.length) (by omega : (cev gv (eU K V (i + 1)) (cev gv l q)).length = q.length + 2)
        rw [e]
        show cstB gv (-3) (b :: a :: r) = cst gv (-3) (b :: a :: r) ∧ (cst gv (-3) (b :: a :: r)).length = _
        have hb : isb (-3) := by unfold isb; decide
        rw [(cst_b hb).1, (cst_b hb).2]
        exact ⟨rfl, by rw [List.length_cons]; omega⟩
    · by_cases c2 : K i = 47
      · rw [if_neg c1, if_pos c2] at hs
        have u := gB_1 hs
        have eu := gD_at u.1
        have mu := gD_M (K := K) (V := V) (i := i + 1) h u.1
        rw [eu] at mu
        have u2 := u.2
        rw [eu] at u2
        have k2 : K (i + 1) = 2 := by
          have z := u.1
          unfold gD at z
          by_cases c : K (i + 1) = 2
          · exact c
          · rw [if_neg c] at z; cases z
        rw [if_neg c1, if_pos c2]
        have z := BD_P (gv := gv) h ht hv k (i + 2) (l ++ eD V (i + 1)) (by omega) mu.2 u2 ?_
        · simpa only [List.append_assoc] using z
        · intro q hq
          have a1 := hl q hq
          have bu := BD_1 (gv := gv) (op := V (i + 1)) (.inl (hv (i + 1) k2))
          have a2 := bu (cev gv l q) (by omega)
          have el : eD V (i + 1) = [V (i + 1)] ++ [-4] := rfl
          rw [el, cevB_a, cevB_a, cev_a, cev_a, a1.1, a2.1]
          obtain ⟨b, a, r, e, er⟩ := len2 (n := q.length) (by omega : (cev gv [V (i + 1)] (cev gv l q)).length = q.length + 2)
          rw [e]
          show cstB gv (-4) (b :: a :: r) = cst gv (-4) (b :: a :: r) ∧ (cst gv (-4) (b :: a :: r)).length = _
          have hb : isb (-4) := by unfold isb; decide
          rw [(cst_b hb).1, (cst_b hb).2]
          exact ⟨rfl, by rw [List.length_cons]; omega⟩
      · rw [if_neg c1, if_neg c2, List.append_nil]; exact hl
theorem BD_T {gv K V : Nat → Int} {t i : Nat} (h : KZ K t) (ht : t ≤ 501) (hv : ∀ i, K i = 2 → 0 ≤ V i) (hs : (gT K V i).1 = 0) : BD gv (rT K V i) 2 := by
  have u := gB_1 hs
  have eu := gU_at u.1
  have mu := gU_M (K := K) (i := i) h u.1
  rw [eu] at mu
  have u2 := u.2
  rw [eu] at u2
  exact BD_P h ht hv (t + 1) (i + 1) _ (by omega) mu.2 u2 (BD_m (BD_U u.1 (hv i)) (by decide))
/-- an operand and its sign behind what stands -/
theorem BD_2 {gv : Nat → Int} {l l2 : List Int} {op : Int} {m : Nat} (h1 : BD gv l (m + 1)) (h2 : BD gv l2 m) (h : isb op) : BD gv (l ++ (l2 ++ [op])) (m + 1) := by
  intro k hk
  have a1 := h1 k hk
  have a2 := h2 (cev gv l k) (by omega)
  rw [cevB_a, cevB_a, cev_a, cev_a, a1.1, a2.1]
  obtain ⟨b, a, r, e, er⟩ := len2 (n := k.length) (by omega : (cev gv l2 (cev gv l k)).length = k.length + 2)
  rw [e]
  show cstB gv op (b :: a :: r) = cst gv op (b :: a :: r) ∧ (cst gv op (b :: a :: r)).length = _
  rw [(cst_b h).1, (cst_b h).2]
  exact ⟨rfl, by rw [List.length_cons]; omega⟩
theorem BD_Q {gv K V : Nat → Int} {t : Nat} (h : KZ K t) (ht : t ≤ 501) (hv : ∀ i, K i = 2 → 0 ≤ V i) : ∀ (k i : Nat) (l : List Int), t + 1 ≤ i + k → BD gv l 3 → BD gv (l ++ rQ K V 600 i) 3
  | 0, i, l, h0, hl => by
    rw [rQ_u h ht, if_neg (fun z => by have := h i (by omega); omega), List.append_nil]; exact hl
  | k + 1, i, l, h0, hl => by
    rw [rQ_u h ht]
    by_cases c : (K i = 43 ∨ K i = 45) ∧ (gT K V (i + 1)).1 = 0
    · have m : i + 1 + 1 ≤ (gT K V (i + 1)).2 ∧ (gT K V (i + 1)).2 ≤ t := gT_M (K := K) (V := V) (i := i + 1) h c.2
      rw [if_pos c]
      have hb : isb (if K i = 43 then (-1 : Int) else -2) := by unfold isb; by_cases c4 : K i = 43 <;> simp only [c4, if_true, if_false] <;> decide
      have z := BD_Q (gv := gv) h ht hv k (gT K V (i + 1)).2 (l ++ (rT K V (i + 1) ++ [if K i = 43 then -1 else -2])) (by omega) (BD_2 (m := 2) hl (BD_T h ht hv c.2) hb)
      simpa only [List.append_assoc] using z
    · rw [if_neg c, List.append_nil]; exact hl
theorem BD_E {gv K V : Nat → Int} {t i : Nat} (h : KZ K t) (ht : t ≤ 501) (hv : ∀ i, K i = 2 → 0 ≤ V i) (hi : i ≤ t) (hs : (gE K V i).1 = 0) : BD gv (rE K V i) 3 := by
  rw [gE_PQ h ht] at hs
  have u := gB_1 hs
  exact BD_Q h ht hv (t + 1) _ _ (by omega) (BD_m (BD_T h ht hv u.1) (by decide))
theorem BD_C1 {gv K V : Nat → Int} {t i : Nat} (h : KZ K t) (ht : t ≤ 501) (hv : ∀ i, K i = 2 → 0 ≤ V i) (hi : i ≤ t) (hs : (gC1 K V i).1 = 0) : BD gv (rC1 K V i) 4 := by
  have u := gB_1 hs
  have m := gE_M (K := K) (V := V) (i := i) h u.1
  have z := u.2
  by_cases c : K (gE K V i).2 = 60 ∨ K (gE K V i).2 = 61 ∨ K (gE K V i).2 = 62
  · rw [if_pos c] at z
    have lt := KZ_lt (i := (gE K V i).2) h (by omega)
    have hb : isb (opc (K (gE K V i).2)) := by
      unfold opc isb
      (repeat' split) <;> decide
    exact BD_b (m := 3) (BD_E h ht hv hi u.1) (BD_E h ht hv (by omega) z) hb
  · rw [if_neg c] at z; cases z
theorem BD_N {gv : Nat → Int} {K : Nat → Int} {e : Nat → List Int} {c : Nat → GR} {t m : Nat} (hc : ∀ i, gM (c i) i t) (ht : t ≤ 501) (he : ∀ i, i ≤ t → (c i).1 = 0 → BD gv (e i) m) : ∀ (k i : Nat) (l : List Int), t + 1 ≤ i + k → i ≤ t → BD gv l (m + 1) → BD gv (l ++ rN K e c 600 i) (m + 1)
  | 0, i, l, h0, hi, hl => by omega
  | k + 1, i, l, h0, hi, hl => by
    rw [rN_u hc ht]
    by_cases z : K i = 1004 ∧ (c (i + 1)).1 = 0
    · have mm := hc (i + 1) z.2
      rw [if_pos z]
      have hb : isb (-9) := by unfold isb; decide
      have y := BD_N (gv := gv) (K := K) hc ht he k (c (i + 1)).2 (l ++ (e (i + 1) ++ [-9])) (by omega) mm.2 (BD_2 hl (he _ (by omega) z.2) hb)
      simpa only [List.append_assoc] using y
    · rw [if_neg z, List.append_nil]; exact hl
theorem BD_Ev {gv : Nat → Int} {K : Nat → Int} {e : Nat → List Int} {c : Nat → GR} {t m i : Nat} (hc : ∀ i, gM (c i) i t) (ht : t ≤ 501) (he : ∀ i, i ≤ t → (c i).1 = 0 → BD gv (e i) m) (hi : i ≤ t) (hs : (c i).1 = 0) : BD gv (rEv K e c i) (m + 1) :=
  BD_N hc ht he (t + 1) _ _ (by omega) (hc i hs).2 (BD_m (he i hi hs) (by omega))
theorem BD_O {gv : Nat → Int} {K : Nat → Int} {e : Nat → List Int} {c : Nat → GR} {t m : Nat} (hc : ∀ i, gM (c i) i t) (ht : t ≤ 501) (he : ∀ i, i ≤ t → (c i).1 = 0 → BD gv (e i) m) : ∀ (k i : Nat) (l : List Int), t + 1 ≤ i + k → i ≤ t → BD gv l (m + 2) → BD gv (l ++ rO K e c 600 i) (m + 2)
  | 0, i, l, h0, hi, hl => by omega
  | k + 1, i, l, h0, hi, hl => by
    rw [rO_u hc ht]
    by_cases z : K i = 1003 ∧ (gB (c (i + 1)) (gN K c 600)).1 = 0
    · have mm := gNM (K := K) hc z.2
      rw [if_pos z]
      have hb : isb (-10) := by unfold isb; decide
      have y := BD_O (gv := gv) (K := K) hc ht he k (gB (c (i + 1)) (gN K c 600)).2 (l ++ (rEv K e c (i + 1) ++ [-10])) (by omega) mm.2 (BD_2 (m := m + 1) hl (BD_Ev hc ht he (by omega) (gB_1 z.2).1) hb)
      simpa only [List.append_assoc] using y
    · rw [if_neg z, List.append_nil]; exact hl
theorem BD_C {gv K V : Nat → Int} {t : Nat} (h : KZ K t) (ht : t ≤ 501) (hv : ∀ i, K i = 2 → 0 ≤ V i) : ∀ d i, i ≤ t → (gC K V d i).1 = 0 → BD gv (rC K V d i) (4 + 2 * d)
  | 0, i, hi, hs => by
    unfold gC at hs
    by_cases c : K i = 1005 ∨ K i = 40
    · rw [if_pos c] at hs; cases hs
    · rw [if_neg c] at hs; exact BD_C1 h ht hv hi hs
  | d + 1, i, hi, hs => by
    have hc := gC_M (V := V) h d
    have he := BD_C (gv := gv) (V := V) h ht hv d
    show BD gv (if _ then _ else if _ then _ else _) _
    by_cases c : K i = 1005
    · have lt := KZ_lt (i := i) h (by omega)
      rw [gC_n c] at hs
      rw [if_pos c]
      exact BD_m (BD_n (he _ (by omega) hs)) (by omega)
    · rw [if_neg c]
      by_cases c2 : K i = 40
      · have lt := KZ_lt (i := i) h (by omega)
        rw [gC_p c2] at hs
        have u := (gB_1 hs).1
        have u1 := gB_1 u
        rw [if_pos c2]
        have eo : gB (gC K V d (i + 1)) (gN K (gC K V d) 600) = gN K (gC K V d) 600 (gC K V d (i + 1)).2 := gB_ok u1.1
        have mg := gNM (K := K) (i := i + 1) hc
        have u3 : (gB (gC K V d (i + 1)) (gN K (gC K V d) 600)).1 = 0 := by
          have z := u1.2
          rw [gL_NO hc ht (t + 1) _ (by omega) (hc (i + 1) u1.1).2] at z
          rw [eo]; exact (gB_1 z).1
        exact BD_m (BD_O hc ht he (t + 1) _ _ (by omega) (mg u3).2 (BD_m (BD_Ev hc ht he (by omega) u1.1) (by omega))) (by omega)
      · rw [if_neg c2]
        rw [gC_1 c c2] at hs
        exact BD_m (BD_C1 h ht hv hi hs) (by omega)
theorem BD_B {gv K V : Nat → Int} {t d i : Nat} (h : KZ K t) (ht : t ≤ 501) (hv : ∀ i, K i = 2 → 0 ≤ V i) (hi : i ≤ t) (hs : (gB_ K V d i).1 = 0) : BD gv (rB K V d i) (6 + 2 * d) := by
  have hc := gC_M (V := V) h d
  have he := BD_C (gv := gv) (V := V) h ht hv d
  have u1 := gB_1 hs
  have eo : gB (gC K V d i) (gN K (gC K V d) 600) = gN K (gC K V d) 600 (gC K V d i).2 := gB_ok u1.1
  have u3 : (gB (gC K V d i) (gN K (gC K V d) 600)).1 = 0 := by
    have z := u1.2
    rw [gL_NO hc ht (t + 1) _ (by omega) (hc i u1.1).2] at z
    rw [eo]; exact (gB_1 z).1
  exact BD_m (BD_O hc ht he (t + 1) _ _ (by omega) (gNM (K := K) (i := i) hc u3).2 (BD_m (BD_Ev hc ht he hi u1.1) (by omega))) (by omega)
theorem eC_1 {K V : Nat → Int} {d i : Nat} (h : ¬ K i = 1005) (h2 : ¬ K i = 40) : eC K V d i = eC1 K V i := by
  cases d with
  | zero => rfl
  | succ d =>
    show (if _ then _ else if _ then _ else _) = _
    rw [if_neg h, if_neg h2]
theorem eC_n {K V : Nat → Int} {d i : Nat} (h : K i = 1005) : eC K V (d + 1) i = eC K V d (i + 1) ++ [-8] := by
  show (if _ then _ else if _ then _ else _) = _
  rw [if_pos h]
theorem eC_p {K V : Nat → Int} {d i : Nat} (h : K i = 40) : eC K V (d + 1) i = eB K V d (i + 1) := by
  show (if _ then _ else if _ then _ else _) = _
  rw [if_neg (by omega), if_pos h]; rfl
/-- behind an or -/
def eLr (K : Nat → Int) (e : Nat → List Int) (c : Nat → GR) (i : Nat) : List Int := if (c (i + 1)).1 = 0 then e (i + 1) ++ eL K e c 600 1 (c (i + 1)).2 else []
theorem eL_or {K : Nat → Int} {e : Nat → List Int} {c : Nat → GR} {t i : Nat} {w : Int} (hc : ∀ i, gM (c i) i t) (ht : t ≤ 501) (h : K i = 1003) : eL K e c 600 w i = flb w ++ eLr K e c i := by
  rw [eL_u hc ht, if_neg (by omega)]
  unfold eLr
  by_cases z : (c (i + 1)).1 = 0
  · rw [if_pos ⟨h, z⟩, if_pos z]
  · rw [if_neg (fun y => z y.2), if_neg z, List.append_nil]
/-! a line: where its E begins, its RULE (8: pull), what is emitted -/
def lnP (K : Nat → Int) (i : Nat) : Nat := if K i = 1001 then i + 1 else i + 2
def lnR (K V : Nat → Int) (i : Nat) : Int := if K i = 1001 then 8 else V (i + 1)
def eLb (K V : Nat → Int) (j : Nat) : List Int := if K j = 1002 then eB K V 8 (j + 1) else []
def eL1n (K V : Nat → Int) (i : Nat) : List Int := eE K V i ++ eLb K V (gE K V i).2
def eLn (K V : Nat → Int) (i : Nat) : List Int := eL1n K V (lnP K i)
theorem lnP_p {K : Nat → Int} {i : Nat} (h : K i = 1001) : lnP K i = i + 1 := by unfold lnP; rw [if_pos h]
theorem lnP_r {K : Nat → Int} {i : Nat} (h : ¬ K i = 1001) : lnP K i = i + 2 := by unfold lnP; rw [if_neg h]
theorem lnR_p {K V : Nat → Int} {i : Nat} (h : K i = 1001) : lnR K V i = 8 := by unfold lnR; rw [if_pos h]
theorem lnR_r {K V : Nat → Int} {i : Nat} (h : ¬ K i = 1001) : lnR K V i = V (i + 1) := by unfold lnR; rw [if_neg h]
theorem eLn_p {K V : Nat → Int} {i : Nat} (h : K i = 1001) : eLn K V i = eE K V (i + 1) ++ eLb K V (gE K V (i + 1)).2 := by unfold eLn; rw [lnP_p h]; rfl
theorem eLn_r {K V : Nat → Int} {i : Nat} (h : ¬ K i = 1001) (hl : (gA K V 7 (i + 1)).1 = 0) : eLn K V i = [] ++ eL1n K V (gA K V 7 (i + 1)).2 := by
  unfold eLn
  rw [lnP_r h]
  unfold gA at hl ⊢
  split at hl
  · rename_i c; rw [if_pos c]
    split at hl
    · rename_i c2; rw [if_pos c2]; rfl
    · cases hl
  · cases hl
theorem eLb_1 {K V : Nat → Int} {j : Nat} (h : K j = 1002) : eLb K V j = eB K V 8 (j + 1) := by unfold eLb; rw [if_pos h]
theorem eLb_0 {K V : Nat → Int} {j : Nat} (h : ¬ K j = 1002) : eLb K V j = [] := by unfold eLb; rw [if_neg h]
