/-! ASK: the rule that a draw comes to, and what is said -/
/-- how many of the first n sums of weights don't go beyond d -/
def RLF (f fa : Nat → Int) (l d : Int) : Nat → Int
  | 0 => 0
  | n + 1 => RLF f fa l d n + (if WS f fa l (n + 1) ≤ d then 1 else 0)
theorem WS_m {f fa : Nat → Int} {l : Int} : ∀ m n : Nat, n + m ≤ 8 → WS f fa l n ≤ WS f fa l (n + m)
  | 0, _, _ => Int.le_refl _
  | m + 1, n, h => by
    have z := WS_m (f := f) (fa := fa) (l := l) m n (by omega)
    have w := WH_R7 (f := f) (fa := fa) (l := l) (r := ((n + m : Nat) : Int)) (by omega)
    show WS f fa l n ≤ WS f fa l (n + m) + WH f fa l ((n + m : Nat) : Int)
    omega
theorem RLF_lo {f fa : Nat → Int} {l d : Int} {v : Nat} (hv : v ≤ 8) (h : WS f fa l v ≤ d) : ∀ n : Nat, n ≤ v → RLF f fa l d n = n
  | 0, _ => rfl
  | n + 1, hn => by
    have z := RLF_lo hv h n (by omega)
    have w := WS_m (f := f) (fa := fa) (l := l) (v - (n + 1)) (n + 1) (by omega)
    rw [show n + 1 + (v - (n + 1)) = v by omega] at w
    show RLF f fa l d n + (if WS f fa l (n + 1) ≤ d then 1 else 0) = _
    rw [if_pos (by omega), z]
    omega
theorem RLF_hi {f fa : Nat → Int} {l d : Int} {v : Nat} (h1 : WS f fa l v ≤ d) (h2 : d < WS f fa l (v + 1)) : ∀ m : Nat, v + 1 + m ≤ 8 → RLF f fa l d (v + 1 + m) = v
  | 0, hm => by
    have z := RLF_lo (v := v) (by omega) h1 v (Nat.le_refl _)
    show RLF f fa l d v + (if WS f fa l (v + 1) ≤ d then 1 else 0) = _
    rw [if_neg (by omega), z]
    omega
  | m + 1, hm => by
    have z := RLF_hi h1 h2 m (by omega)
    have w := WS_m (f := f) (fa := fa) (l := l) (m + 1) (v + 1) (by omega)
    show RLF f fa l d (v + 1 + m) + (if WS f fa l (v + 1 + (m + 1)) ≤ d then 1 else 0) = _
    rw [if_neg (by omega), z]
    omega
theorem RLF_u {f fa : Nat → Int} {l d r : Int} (h : 0 ≤ r ∧ r < 8) (h1 : WS f fa l r.toNat ≤ d) (h2 : d < WS f fa l (r + 1).toNat) : r = RLF f fa l d 8 := by
  have z := RLF_hi (v := r.toNat) h1 (by rw [show r.toNat + 1 = (r + 1).toNat by omega]; exact h2) (8 - (r.toNat + 1)) (by omega)
  rw [show r.toNat + 1 + (8 - (r.toNat + 1)) = 8 by omega] at z
  omega
/-- STATE behind a draw, and the draw of a number under many -/
def DRW (s : Int) : Int := wr (1664525 * s + 1013904223)
def DVW (s many : Int) : Int := am_ushr s 8 % many
/-- the rule that ASK takes: -1 with no weights -/
def AKR (f fa : Nat → Int) (l s : Int) : Int := if WS f fa l 8 = 0 then -1 else RLF f fa l (DVW (DRW s) (WS f fa l 8)) 8
/-- whether what is seen pulled -/
def AKP (f fa : Nat → Int) (l s : Int) : Int := if DVW (DRW (DRW s)) 100 < WH f fa l 8 then 1 else 0
/-- what is said -/
def AKB (f fa : Nat → Int) (l : Int) (q : Nat) (s : Int) : Int :=
  if DVW (DRW (DRW s)) 100 < WH f fa l 8 then SAID f q 0
  else if WS f fa l 8 = 0 then DVW (DRW s) 4 else SAID f q (RLF f fa l (DVW (DRW s) (WS f fa l 8)) 8)
