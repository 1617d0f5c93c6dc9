/-! a child's answers counted: how often each rule agrees; powers of nine; the best -/
def PW9 : Nat → Int
  | 0 => 1
  | n + 1 => PW9 n * 9
theorem PW9_p : ∀ n : Nat, 1 ≤ PW9 n
  | 0 => by decide
  | n + 1 => by
    have z := PW9_p n
    show 1 ≤ PW9 n * 9
    omega
theorem PW9_m : ∀ m n : Nat, PW9 n ≤ PW9 (n + m)
  | 0, _ => Int.le_refl _
  | m + 1, n => by
    have z := PW9_m m n
    have p := PW9_p (n + m)
    show PW9 n ≤ PW9 (n + m) * 9
    omega
theorem PW9_le {a b : Nat} (h : a ≤ b) : PW9 a ≤ PW9 b := by
  have z := PW9_m (b - a) a
  rw [show a + (b - a) = b by omega] at z
  exact z
theorem PW9_lt {a b : Nat} (h : a < b) : PW9 a < PW9 b := by
  have z := PW9_le (a := a + 1) (b := b) h
  have p := PW9_p a
  have e : PW9 (a + 1) = PW9 a * 9 := rfl
  omega
theorem PW9_gt {a b : Nat} : PW9 a < PW9 b ↔ a < b := by
  constructor
  · intro h
    by_cases c : a < b
    · exact c
    · have z := PW9_le (a := b) (b := a) (by omega)
      omega
  · exact PW9_lt
theorem PW9_12 {n : Nat} (h : n ≤ 12) : 1 ≤ PW9 n ∧ PW9 n ≤ 282429536481 := ⟨PW9_p n, Int.le_trans (PW9_le h) (by decide)⟩
def AGM (N : Nat → Nat → Int) (c : Int) : Nat → Nat
  | 0 => 0
  | i + 1 => if AGM N c i < 12 ∧ N i 0 = c then AGM N c i + 1 else AGM N c i
/-- how often a rule r agrees among the first so many answers (twelve of a child's at most) -/
def AGC (S : Nat → Int → Int) (N : Nat → Nat → Int) (c r : Int) : Nat → Nat
  | 0 => 0
  | i + 1 => if AGM N c i < 12 ∧ N i 0 = c ∧ S (N i 1).toNat r = N i 3 then AGC S N c r i + 1 else AGC S N c r i
theorem AGM_12 {N : Nat → Nat → Int} {c : Int} : ∀ n : Nat, AGM N c n ≤ 12
  | 0 => Nat.zero_le 12
  | n + 1 => by
    have z := AGM_12 (N := N) (c := c) n
    show (if AGM N c n < 12 ∧ N n 0 = c then AGM N c n + 1 else AGM N c n) ≤ 12
    split <;> omega
theorem AGC_m {S : Nat → Int → Int} {N : Nat → Nat → Int} {c r : Int} : ∀ n : Nat, AGC S N c r n ≤ AGM N c n
  | 0 => Nat.le_refl _
  | n + 1 => by
    have z := AGC_m (S := S) (N := N) (c := c) (r := r) n
    show (if AGM N c n < 12 ∧ N n 0 = c ∧ S (N n 1).toNat r = N n 3 then AGC S N c r n + 1 else AGC S N c r n) ≤ (if AGM N c n < 12 ∧ N n 0 = c then AGM N c n + 1 else AGM N c n)
    by_cases h : AGM N c n < 12 ∧ N n 0 = c
    · rw [if_pos h]
      split <;> omega
    · rw [if_neg h, if_neg (fun y => h ⟨y.1, y.2.1⟩)]
      exact z
theorem AGC_12 {S : Nat → Int → Int} {N : Nat → Nat → Int} {c r : Int} {n : Nat} : AGC S N c r n ≤ 12 := Nat.le_trans (AGC_m n) (AGM_12 n)
theorem AGM_y {N : Nat → Nat → Int} {c : Int} {i : Nat} (h : AGM N c i < 12) (e : N i 0 = c) : AGM N c (i + 1) = AGM N c i + 1 := if_pos ⟨h, e⟩
theorem AGM_n {N : Nat → Nat → Int} {c : Int} {i : Nat} (e : ¬ N i 0 = c) : AGM N c (i + 1) = AGM N c i := if_neg (fun y => e y.2)
theorem AGC_y {S : Nat → Int → Int} {N : Nat → Nat → Int} {c r : Int} {i : Nat} (h : AGM N c i < 12) (e : N i 0 = c) : AGC S N c r (i + 1) = AGC S N c r i + (if S (N i 1).toNat r = N i 3 then 1 else 0) := by
  show (if AGM N c i < 12 ∧ N i 0 = c ∧ S (N i 1).toNat r = N i 3 then AGC S N c r i + 1 else AGC S N c r i) = _
  by_cases q : S (N i 1).toNat r = N i 3
  · rw [if_pos ⟨h, e, q⟩, if_pos q]
  · rw [if_neg (fun y => q y.2.2), if_neg q]; rfl
theorem AGC_n {S : Nat → Int → Int} {N : Nat → Nat → Int} {c r : Int} {i : Nat} (e : ¬ N i 0 = c) : AGC S N c r (i + 1) = AGC S N c r i := if_neg (fun y => e y.2.1)
theorem AGM_st {N : Nat → Nat → Int} {c : Int} {i : Nat} (h : ¬ AGM N c i < 12) : ∀ k : Nat, ¬ AGM N c (i + k) < 12
  | 0 => h
  | k + 1 => by
    have z := AGM_st h k
    show ¬ (if AGM N c (i + k) < 12 ∧ N (i + k) 0 = c then AGM N c (i + k) + 1 else AGM N c (i + k)) < 12
    rw [if_neg (fun y => z y.1)]
    exact z
theorem AGC_st {S : Nat → Int → Int} {N : Nat → Nat → Int} {c r : Int} {i : Nat} (h : ¬ AGM N c i < 12) : ∀ k : Nat, AGC S N c r (i + k) = AGC S N c r i
  | 0 => rfl
  | k + 1 => by
    have z := AGM_st h k
    show (if AGM N c (i + k) < 12 ∧ N (i + k) 0 = c ∧ S (N (i + k) 1).toNat r = N (i + k) 3 then AGC S N c r (i + k) + 1 else AGC S N c r (i + k)) = _
    rw [if_neg (fun y => z y.1)]
    exact AGC_st h k
theorem AGC_end {S : Nat → Int → Int} {N : Nat → Nat → Int} {c r : Int} {i n : Nat} (hn : i ≤ n) (h : ¬ AGM N c i < 12) : AGC S N c r n = AGC S N c r i := by
  have z := AGC_st (S := S) (r := r) h (n - i)
  rw [show i + (n - i) = n by omega] at z
  exact z
/-- by other functions that say the same -/
theorem AGM_c {N N' : Nat → Nat → Int} {c : Int} : ∀ n : Nat, (∀ i, i < n → N' i 0 = N i 0) → AGM N' c n = AGM N c n
  | 0, _ => rfl
  | n + 1, h => by
    show (if AGM N' c n < 12 ∧ N' n 0 = c then AGM N' c n + 1 else AGM N' c n) = (if AGM N c n < 12 ∧ N n 0 = c then AGM N c n + 1 else AGM N c n)
    rw [AGM_c n (fun i hi => h i (by omega)), h n (by omega)]
theorem AGC_c {S S' : Nat → Int → Int} {N N' : Nat → Nat → Int} {c r : Int} : ∀ n : Nat, (∀ i, i < n → N' i 0 = N i 0 ∧ N' i 1 = N i 1 ∧ N' i 3 = N i 3 ∧ S' (N i 1).toNat r = S (N i 1).toNat r) → AGC S' N' c r n = AGC S N c r n
  | 0, _ => rfl
  | n + 1, h => by
    show (if AGM N' c n < 12 ∧ N' n 0 = c ∧ S' (N' n 1).toNat r = N' n 3 then AGC S' N' c r n + 1 else AGC S' N' c r n) = (if AGM N c n < 12 ∧ N n 0 = c ∧ S (N n 1).toNat r = N n 3 then AGC S N c r n + 1 else AGC S N c r n)
    obtain ⟨a, b, d, e⟩ := h n (by omega)
    rw [AGC_c n (fun i hi => h i (by omega)), AGM_c n (fun i hi => (h i (by omega)).1), a, b, d, e]
/-- a sum of eight; the odds of a rule; the best of all -/
def SM8 (w : Nat → Int) : Nat → Int
  | 0 => 0
  | n + 1 => SM8 w n + w n
theorem SM8_s {w : Nat → Int} {l : Int} (h : 0 ≤ l) : SM8 w (l + 1).toNat = SM8 w l.toNat + w l.toNat := by
  rw [show (l + 1).toNat = l.toNat + 1 by omega]; rfl
theorem SM8_c {w w' : Nat → Int} : ∀ n : Nat, (∀ i, i < n → w' i = w i) → SM8 w' n = SM8 w n
  | 0, _ => rfl
  | n + 1, h => by
    show SM8 w' n + w' n = SM8 w n + w n
    rw [SM8_c n (fun i hi => h i (by omega)), h n (by omega)]
theorem SM8_R {w : Nat → Int} (h : ∀ i, 1 ≤ w i ∧ w i ≤ 282429536481) : ∀ n : Nat, (n : Int) ≤ SM8 w n ∧ SM8 w n ≤ 282429536481 * n
  | 0 => by constructor <;> exact Int.le_refl _
  | n + 1 => by
    have z := SM8_R h n
    have y := h n
    show ((n + 1 : Nat) : Int) ≤ SM8 w n + w n ∧ SM8 w n + w n ≤ _
    omega
theorem SM8_ge {w : Nat → Int} (h : ∀ i, 1 ≤ w i) : ∀ n k : Nat, k < n → w k ≤ SM8 w n
  | 0, _, hk => absurd hk (Nat.not_lt_zero _)
  | n + 1, k, hk => by
    have p : ∀ m : Nat, 0 ≤ SM8 w m := fun m => by
      induction m with
      | zero => exact Int.le_refl _
      | succ m ih =>
        have := h m
        show 0 ≤ SM8 w m + w m
        omega
    have y := h n
    show w k ≤ SM8 w n + w n
    by_cases e : k = n
    · subst e
      have := p k
      omega
    · have z := SM8_ge h n k (by omega)
      omega
def ODD (w : Nat → Int) (r : Int) : Int := 1000 * w r.toNat / SM8 w 8
theorem ODD_R {w : Nat → Int} {r : Int} (h : ∀ i, 1 ≤ w i ∧ w i ≤ 282429536481) (hr : 0 ≤ r ∧ r ≤ 7) : 0 ≤ ODD w r ∧ ODD w r ≤ 1000 := by
  have s := SM8_R h 8
  have g := SM8_ge (fun i => (h i).1) 8 r.toNat (by omega)
  have y := h r.toNat
  unfold ODD
  refine ⟨Int.ediv_nonneg (by omega) (by omega), Int.ediv_le_of_le_mul (by omega) (by omega)⟩
def BST (w : Nat → Int) : Nat → Nat
  | 0 => 0
  | n + 1 => if w (BST w n) < w (n + 1) then n + 1 else BST w n
theorem BST_R {w : Nat → Int} : ∀ n : Nat, BST w n ≤ n
  | 0 => Nat.le_refl _
  | n + 1 => by
    have z := BST_R (w := w) n
    show (if w (BST w n) < w (n + 1) then n + 1 else BST w n) ≤ n + 1
    split <;> omega
theorem BST_y {w : Nat → Int} {l b : Int} (h1 : 1 ≤ l) (e : b = (BST w (l - 1).toNat : Nat)) (h : w b.toNat < w l.toNat) : l = (BST w (l + 1 - 1).toNat : Nat) := by
  rw [show (l + 1 - 1).toNat = (l - 1).toNat + 1 by omega]
  show l = ((if w (BST w (l - 1).toNat) < w ((l - 1).toNat + 1) then (l - 1).toNat + 1 else BST w (l - 1).toNat : Nat) : Int)
  rw [show b.toNat = BST w (l - 1).toNat by omega, show l.toNat = (l - 1).toNat + 1 by omega] at h
  rw [if_pos h]
  omega
theorem BST_n {w : Nat → Int} {l b : Int} (h1 : 1 ≤ l) (e : b = (BST w (l - 1).toNat : Nat)) (h : ¬ w b.toNat < w l.toNat) : b = (BST w (l + 1 - 1).toNat : Nat) := by
  rw [show (l + 1 - 1).toNat = (l - 1).toNat + 1 by omega]
  show b = ((if w (BST w (l - 1).toNat) < w ((l - 1).toNat + 1) then (l - 1).toNat + 1 else BST w (l - 1).toNat : Nat) : Int)
  rw [show b.toNat = BST w (l - 1).toNat by omega, show l.toNat = (l - 1).toNat + 1 by omega] at h
  rw [if_neg h]
  exact e
theorem BST_c {w w' : Nat → Int} : ∀ n : Nat, (∀ i j, i ≤ n → j ≤ n → (w' i < w' j ↔ w i < w j)) → BST w' n = BST w n
  | 0, _ => rfl
  | n + 1, h => by
    show (if w' (BST w' n) < w' (n + 1) then n + 1 else BST w' n) = (if w (BST w n) < w (n + 1) then n + 1 else BST w n)
    rw [BST_c n (fun i j hi hj => h i j (by omega) (by omega))]
    have b := BST_R (w := w) n
    have z := h (BST w n) (n + 1) (by omega) (by omega)
    by_cases c : w (BST w n) < w (n + 1)
    · rw [if_pos c, if_pos (z.mpr c)]
    · rw [if_neg c, if_neg (fun y => c (z.mp y))]
/-- one place of a row changes -/
theorem AGS_s {D D1 g s : Nat → Int} {p l v : Int} (h : ∀ r : Nat, (r : Int) < l → D r = g r + (if s r = p then 1 else 0)) (h0 : 0 ≤ l) (hp : ∀ r : Nat, ¬ r = l.toNat → D1 r = D r) (hv : D1 l.toNat = v) (e : v = g l.toNat + (if s l.toNat = p then 1 else 0)) : ∀ r : Nat, (r : Int) < l + 1 → D1 r = g r + (if s r = p then 1 else 0) := by
  intro r hr
  by_cases c : r = l.toNat
  · subst c
    rw [hv, e]
  · rw [hp r c]
    exact h r (by omega)
