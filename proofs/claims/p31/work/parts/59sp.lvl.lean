/-! what a chance is worth: ten times the whole logarithm, and tenths -/
theorem shr_d {a k : Int} (ha : 0 ≤ a ∧ a ≤ 2147483647) (hk : 0 ≤ k ∧ k ≤ 30) : am_shr a k = a / ((2 ^ k.toNat : Nat) : Int) := by
  unfold am_shr
  have e0 : ∀ j : Fin 31, ((Int32.ofInt (j.val : Int) &&& 31).toBitVec.smod 32).toNat = j.val := by decide +kernel
  have ek : ((k.toNat : Nat) : Int) = k := Int.toNat_of_nonneg hk.1
  have e3 : ((Int32.ofInt k &&& 31).toBitVec.smod 32).toNat = k.toNat := by
    have z := e0 ⟨k.toNat, by omega⟩
    rw [ek] at z
    exact z
  have h0 : (2 : Int) ^ 31 = 2147483648 := by decide
  have h1 : (Int32.ofInt a).toBitVec.toNat = a.toNat := (i32_of (n := 31) ⟨ha.1, by omega⟩ (by decide)).1
  have ea : (Int32.ofInt a).toInt = a := by
    show (Int32.ofInt a).toBitVec.toInt = a
    rw [BitVec.toInt_eq_toNat_of_lt (by omega), h1]
    omega
  show (Int32.ofInt a >>> (Int32.ofInt k &&& 31)).toBitVec.toInt = _
  rw [Int32.toBitVec_shiftRight, BitVec.sshiftRight_eq', BitVec.toInt_sshiftRight, e3, Int.shiftRight_eq_div_pow]
  show (Int32.ofInt a).toInt / _ = _
  rw [ea]
theorem shl_d {k : Int} (hk : 0 ≤ k ∧ k ≤ 30) : am_shl 1 k = ((2 ^ k.toNat : Nat) : Int) := by
  have e0 : ∀ j : Fin 31, am_shl 1 (j.val : Int) = ((2 ^ j.val : Nat) : Int) := by decide +kernel
  have ek : ((k.toNat : Nat) : Int) = k := Int.toNat_of_nonneg hk.1
  have z := e0 ⟨k.toNat, by omega⟩
  rw [ek] at z
  exact z
/-- the whole logarithm of 1 .. 1000 -/
def LVK (c : Nat) : Nat := ((List.range 10).filter (fun j => Nat.ble (2 ^ (j + 1)) c)).length
theorem LVK_u {c k : Nat} (hc : c ≤ 1000) (hk : k ≤ 20) (h1 : 2 ^ k ≤ c) (h2 : c < 2 ^ (k + 1)) : k = LVK c := by
  have k10 : k < 10 := by
    by_cases e : k < 10
    · exact e
    · have z : 2 ^ 10 ≤ 2 ^ k := Nat.pow_le_pow_right (by decide) (by omega)
      have y : (2 : Nat) ^ 10 = 1024 := by decide
      omega
  have key : ∀ a : Fin 1001, ∀ b : Fin 10, 2 ^ b.val ≤ a.val → a.val < 2 ^ (b.val + 1) → b.val = LVK a.val := by decide +kernel
  exact key ⟨c, by omega⟩ ⟨k, k10⟩ h1 h2
def LVL (c : Int) : Int := if c ≤ 0 then -50 else 10 * (LVK c.toNat : Int) + ((c - ((2 ^ LVK c.toNat : Nat) : Int)) * 10) / ((2 ^ LVK c.toNat : Nat) : Int)
/-- the numbers behind the loop -/
theorem LVL_k {c k : Int} (hc : 1 ≤ c ∧ c ≤ 1000) (hk : 0 ≤ k ∧ k ≤ 20) (h1 : k = 0 ∨ 0 < am_shr c k) (h2 : am_shr c (k + 1) ≤ 0) : k = (LVK c.toNat : Int) ∧ 1 ≤ ((2 ^ k.toNat : Nat) : Int) ∧ ((2 ^ k.toNat : Nat) : Int) ≤ c ∧ c < 2 * ((2 ^ k.toNat : Nat) : Int) := by
  rw [shr_d ⟨by omega, by omega⟩ ⟨by omega, by omega⟩] at h2
  have p : 0 < 2 ^ k.toNat := Nat.pow_pos (by decide)
  have e1 : (k + 1).toNat = k.toNat + 1 := by omega
  rw [e1, Nat.pow_succ] at h2
  have g2 : c < ((2 ^ k.toNat * 2 : Nat) : Int) := by
    by_cases e : c < ((2 ^ k.toNat * 2 : Nat) : Int)
    · exact e
    · have z : 1 ≤ c / ((2 ^ k.toNat * 2 : Nat) : Int) := by
        rw [Int.le_ediv_iff_mul_le (by omega)]
        omega
      omega
  have g1 : ((2 ^ k.toNat : Nat) : Int) ≤ c := by
    rcases h1 with e | e
    · subst e
      show ((1 : Nat) : Int) ≤ c
      omega
    · rw [shr_d ⟨by omega, by omega⟩ ⟨by omega, by omega⟩] at e
      have z : 1 ≤ c / ((2 ^ k.toNat : Nat) : Int) := by omega
      rw [Int.le_ediv_iff_mul_le (by omega)] at z
      omega
  have u := LVK_u (c := c.toNat) (k := k.toNat) (by omega) (by omega) (by omega) (by rw [Nat.pow_succ]; omega)
  exact ⟨by omega, by omega, g1, by omega⟩
theorem LVL_c {c k : Int} (hc : 1 ≤ c ∧ c ≤ 1000) (hk : 0 ≤ k ∧ k ≤ 20) (h1 : k = 0 ∨ 0 < am_shr c k) (h2 : am_shr c (k + 1) ≤ 0) : 10 * k + (wr ((c - am_shl 1 k) * 10)).tdiv (wr (am_shl 1 k)) = LVL c := by
  obtain ⟨a, b, d, e⟩ := LVL_k hc hk h1 h2
  rw [shl_d ⟨by omega, by omega⟩, wr_R ⟨by omega, by omega⟩, wr_R ⟨by omega, by omega⟩, Int.tdiv_eq_ediv_of_nonneg (by omega)]
  unfold LVL
  rw [if_neg (by omega), ← a, show LVK c.toNat = k.toNat by omega]
theorem LVL_r {c k : Int} (hc : 1 ≤ c ∧ c ≤ 1000) (hk : 0 ≤ k ∧ k ≤ 20) (h1 : k = 0 ∨ 0 < am_shr c k) (h2 : am_shr c (k + 1) ≤ 0) : 10 * k + am_shr ((c - am_shl 1 k) * 10) k = LVL c := by
  obtain ⟨a, b, d, e⟩ := LVL_k hc hk h1 h2
  rw [shl_d ⟨by omega, by omega⟩, shr_d ⟨by omega, by omega⟩ ⟨by omega, by omega⟩]
  unfold LVL
  rw [if_neg (by omega), ← a, show LVK c.toNat = k.toNat by omega]
theorem LVL_R {c : Int} (hc : c ≤ 1000) : -50 ≤ LVL c ∧ LVL c ≤ 110 := by
  have key : ∀ a : Fin 1001, -50 ≤ LVL (a.val : Int) ∧ LVL (a.val : Int) ≤ 110 := by decide +kernel
  by_cases e : c ≤ 0
  · unfold LVL
    rw [if_pos e]
    omega
  · have z := key ⟨c.toNat, by omega⟩
    rw [show ((c.toNat : Nat) : Int) = c by omega] at z
    exact z
/-- the sum over ANSWERS -/
def SCV (g : Nat → Int) : Nat → Int
  | 0 => 0
  | i + 1 => SCV g i + LVL (g i)
theorem SCV_s {g : Nat → Int} {l : Int} (h : 0 ≤ l) : SCV g (l + 1).toNat = SCV g l.toNat + LVL (g l.toNat) := by
  rw [show (l + 1).toNat = l.toNat + 1 by omega]; rfl
theorem SCV_c {g g' : Nat → Int} : ∀ n : Nat, (∀ i, i < n → g' i = g i) → SCV g' n = SCV g n
  | 0, _ => rfl
  | n + 1, h => by
    show SCV g' n + LVL (g' n) = SCV g n + LVL (g n)
    rw [SCV_c n (fun i hi => h i (by omega)), h n (by omega)]
/-- a law's score, and what SCORE answers -/
def SCO (w : Int → Int) (p : Int) : Int := if p = -1 then ((BST (fun k => w (k : Int)) 3 : Nat) : Int) else if 0 ≤ p ∧ p ≤ 3 then w p else -1000000
theorem SCO_n {w : Int → Int} {p : Int} (h : ¬ (-1 ≤ p ∧ p ≤ 3)) : (-1000000 : Int) = SCO w p := by
  unfold SCO
  rw [if_neg (by omega), if_neg (by omega)]
theorem SCO_v {w : Int → Int} {p v : Int} (h : 0 ≤ p ∧ p ≤ 3) (e : v = w p) : v = SCO w p := by
  unfold SCO
  rw [if_neg (by omega), if_pos h]
  exact e
theorem SCO_b {w : Int → Int} {p v l : Int} (h : p = -1) (hl : l = 4) (e : v = ((BST (fun k => w (k : Int)) (l - 1).toNat : Nat) : Int)) : v = SCO w p := by
  subst hl
  unfold SCO
  rw [if_pos h]
  exact e
theorem SCO_c {w w' : Int → Int} {p : Int} (h : ∀ q, w' q = w q) : SCO w' p = SCO w p := by
  rw [show w' = w from funext h]
theorem SCVL {A f : Nat → Int} (hA : ANL A f) {p n : Int} (hn : n = f 3) : SCV (fun i => CHN f p (A (6 * i + 0)) (A (6 * i + 1)) (A (6 * i + 2)) (A (6 * i + 3))) n.toNat = SCV (fun i => CHN f p (f (5540 + 6 * i + 0)) (f (5540 + 6 * i + 1)) (f (5540 + 6 * i + 2)) (f (5540 + 6 * i + 3))) (f 3).toNat := by
  subst hn
  refine SCV_c _ (fun i hi => ?_)
  show CHN f p (A (6 * i + 0)) (A (6 * i + 1)) (A (6 * i + 2)) (A (6 * i + 3)) = _
  rw [ANL_v hA (by omega) (by decide), ANL_v hA (by omega) (by decide), ANL_v hA (by omega) (by decide), ANL_v hA (by omega) (by decide)]
theorem SCV_R {g : Nat → Int} (h : ∀ i, g i ≤ 1000) : ∀ n : Nat, -50 * (n : Int) ≤ SCV g n ∧ SCV g n ≤ 110 * (n : Int)
  | 0 => by show (-50 : Int) * 0 ≤ 0 ∧ (0 : Int) ≤ 110 * 0; omega
  | n + 1 => by
    have z := SCV_R h n
    have y := LVL_R (h n)
    show -50 * ((n + 1 : Nat) : Int) ≤ SCV g n + LVL (g n) ∧ SCV g n + LVL (g n) ≤ 110 * ((n + 1 : Nat) : Int)
    omega
