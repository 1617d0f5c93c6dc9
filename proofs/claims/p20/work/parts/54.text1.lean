theorem K0_lo {f f' g : Nat → Int} {k n i : Int} (h : ∀ j : Nat, f' j = K0 f g k n i j) (hk : 0 ≤ k) (q : Nat) (hq : q < 6) : f' q = f q := by
  rw [h q]; unfold K0; rw [if_neg (by omega), if_neg (by omega)]
theorem K2_lo {f f' g h : Nat → Int} {k n i m : Int} (z : ∀ j : Nat, f' j = K2 (K1 f g k n m) h k i j) (hk : 0 ≤ k) (q : Nat) (hq : q < 6) : f' q = f q := by
  rw [z q]; unfold K2 K1; rw [if_neg (by omega), if_neg (by omega), if_neg (by omega), if_neg (by omega), if_neg (by omega), if_neg (by omega)]
theorem xq {L q p : Int} (hL : 0 ≤ L) (hq : 0 ≤ q) (h : ¬ q = p) : ¬ ((((5 * L) + q).toNat : Nat) : Int) = 5 * L + p := by omega
theorem xq0 {L p : Int} (hL : 0 ≤ L) (h : ¬ p = 0) : ¬ (((5 * L).toNat : Nat) : Int) = 5 * L + p := by omega
theorem blq {L p : Int} {j : Nat} (hj : (j : Int) < 5 * L) (hp : 0 ≤ p) : ¬ (j : Int) = 5 * L + p := by omega
theorem xr {A a b : Int} (hA : 0 ≤ A) (ha : 0 ≤ a) (hb : 0 ≤ b) (h : ¬ a = b) : ¬ (A + a).toNat = (A + b).toNat := by omega
theorem xr0 {A b : Int} (hA : 0 ≤ A) (hb : 0 < b) : ¬ A.toNat = (A + b).toNat := by omega
theorem xb {A a : Int} {j : Nat} (hj : (j : Int) < A) (ha : 0 ≤ a) : ¬ j = (A + a).toNat := by omega
theorem xb0 {A : Int} {j : Nat} (hj : (j : Int) < A) : ¬ j = A.toNat := by omega
theorem AGR_5 {g0 g1 g2 g3 g4 g5 : Nat → Int} {a a0 b : Int} (e : g5 = g4) (h2 : AGR g4 g3 b) (e2 : g3 = g2) (h1 : AGR g2 g1 a0) (e0 : g1 = g0) (ha : a0 = a) (hb : a ≤ b) : AGR g5 g0 a := by
  subst e; subst e2; subst e0; subst ha; exact AGR_tr h2 rfl h1 hb
