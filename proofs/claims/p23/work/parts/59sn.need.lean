/-! how often a rule agrees with another among the first so many QUESTIONS; the first place where odds are large -/
def NCT (S : Nat → Int → Int) (x r : Int) : Nat → Nat
  | 0 => 0
  | q + 1 => NCT S x r q + (if S q r = S q x then 1 else 0)
theorem NCT_le {S : Nat → Int → Int} {x r : Int} : ∀ n : Nat, NCT S x r n ≤ n
  | 0 => Nat.le_refl _
  | n + 1 => by
    have z := NCT_le (S := S) (x := x) (r := r) n
    show NCT S x r n + (if S n r = S n x then 1 else 0) ≤ n + 1
    split <;> omega
theorem NCT_12 {S : Nat → Int → Int} {x r : Int} {n : Nat} (h : n ≤ 12) : NCT S x r n ≤ 12 := Nat.le_trans (NCT_le n) h
theorem NCT_s {S : Nat → Int → Int} {x r : Int} {l : Int} (h : 0 ≤ l) : NCT S x r (l + 1).toNat = NCT S x r l.toNat + (if S l.toNat r = S l.toNat x then 1 else 0) := by
  rw [show (l + 1).toNat = l.toNat + 1 by omega]; rfl
theorem NCT_i {S : Nat → Int → Int} {x r l : Int} (h : 0 ≤ l) : (NCT S x r (l + 1).toNat : Int) = (NCT S x r l.toNat : Int) + (if S l.toNat r = S l.toNat x then 1 else 0) := by
  rw [NCT_s h]
  split <;> rfl
theorem NCT_c {S S' : Nat → Int → Int} {x r : Int} : ∀ n : Nat, (∀ q, q < n → S' q r = S q r ∧ S' q x = S q x) → NCT S' x r n = NCT S x r n
  | 0, _ => rfl
  | n + 1, h => by
    show NCT S' x r n + (if S' n r = S' n x then 1 else 0) = NCT S x r n + (if S n r = S n x then 1 else 0)
    rw [NCT_c n (fun q hq => h q (by omega)), (h n (by omega)).1, (h n (by omega)).2]
def NDV (o : Nat → Int) (v : Int) : Nat → Nat → Int
  | 0, q => if v ≤ o q then (q : Int) else -1
  | k + 1, q => if v ≤ o q then (q : Int) else NDV o v k (q + 1)
theorem NDV_y {o : Nat → Int} {v : Int} {k q : Nat} (h : v ≤ o q) : NDV o v k q = (q : Int) := by
  cases k with
  | zero => exact if_pos h
  | succ k => exact if_pos h
theorem NDV_0 {o : Nat → Int} {v n l : Int} (e : l = 0) : NDV o v n.toNat 0 = NDV o v (n - l).toNat l.toNat := by
  subst e
  rw [show (n - 0).toNat = n.toNat by omega]; rfl
theorem NDV_s {o : Nat → Int} {v n l X : Int} (h : X = NDV o v (n - l).toNat l.toNat) (h0 : 0 ≤ l) (hl : l < n) (hq : o l.toNat < v) : X = NDV o v (n - (l + 1)).toNat (l + 1).toNat := by
  rw [h, show (n - l).toNat = (n - (l + 1)).toNat + 1 by omega, show (l + 1).toNat = l.toNat + 1 by omega]
  exact if_neg (by omega)
theorem NDV_r0 {o : Nat → Int} {v x : Int} {k : Nat} (e : x = o 0) (h : v ≤ x) : (0 : Int) = NDV o v k 0 := (NDV_y (by rw [← e]; exact h)).symm
theorem NDV_r1 {o : Nat → Int} {v n l x X : Int} (h : X = NDV o v (n - l).toNat l.toNat) (h0 : 0 ≤ l) (hl : l < n) (hq : o l.toNat < v) (e : x = o (l + 1).toNat) (hx : v ≤ x) : l + 1 = X := by
  rw [NDV_s h h0 hl hq, NDV_y (by rw [← e]; exact hx)]
  omega
theorem NDV_r3 {o : Nat → Int} {v n l x X : Int} (h : X = NDV o v (n - l).toNat l.toNat) (h0 : 0 ≤ l) (e : x = o l.toNat) (hx : v ≤ x) : l = X := by
  rw [h, NDV_y (by rw [← e]; exact hx)]
  omega
theorem NDV_r2 {o : Nat → Int} {v n l X : Int} (h : X = NDV o v (n - l).toNat l.toNat) (hl : n ≤ l) (hq : o l.toNat < v) : (-1 : Int) = X := by
  rw [h, show (n - l).toNat = 0 by omega]
  exact (if_neg (by omega)).symm
theorem NDV_c {o o' : Nat → Int} {v : Int} : ∀ k q : Nat, (∀ j, j ≤ q + k → o' j = o j) → NDV o' v k q = NDV o v k q
  | 0, q, h => by
    show (if v ≤ o' q then (q : Int) else -1) = (if v ≤ o q then (q : Int) else -1)
    rw [h q (by omega)]
  | k + 1, q, h => by
    show (if v ≤ o' q then (q : Int) else NDV o' v k (q + 1)) = (if v ≤ o q then (q : Int) else NDV o v k (q + 1))
    rw [h q (by omega), NDV_c k (q + 1) (fun j hj => h j (by omega))]
def NEI (c : Prop) [Decidable c] (x : Int) : Int := if c then x else -1
theorem NEI_y {c : Prop} [Decidable c] {x : Int} (h : c) : NEI c x = x := if_pos h
theorem NEI_n {c : Prop} [Decidable c] {x : Int} (h : ¬ c) : NEI c x = -1 := if_neg h
theorem NEDL {B f : Nat → Int} (hS : SDL B f) {p v n : Int} (hp : 0 ≤ p ∧ p ≤ 7) (hn : n = f 1) : NDV (fun q => ODD (fun k => PW9 (NCT (SDC B) p (k : Int) q)) p) v n.toNat 0 = NDV (fun q => ODD (fun k => PW9 (NCT (SAID f) p (k : Int) q)) p) v (f 1).toNat 0 := by
  subst hn
  refine NDV_c _ _ (fun j hj => ?_)
  have e : ∀ k : Nat, k < 8 → PW9 (NCT (SDC B) p (k : Int) j) = PW9 (NCT (SAID f) p (k : Int) j) := fun k hk => by
    rw [NCT_c j (fun q hq => ⟨SDL_c hS (by omega) (by omega), SDL_c hS (by omega) (by omega)⟩)]
  show ODD (fun k => PW9 (NCT (SDC B) p (k : Int) j)) p = ODD (fun k => PW9 (NCT (SAID f) p (k : Int) j)) p
  unfold ODD
  rw [SM8_c 8 e]
  show 1000 * PW9 (NCT (SDC B) p (p.toNat : Int) j) / _ = 1000 * PW9 (NCT (SAID f) p (p.toNat : Int) j) / _
  rw [e p.toNat (by omega)]
