/-! what is kept, and where it is copied -/
theorem cp_atv {D : Nat → Nat → Int} {r0 r1 n j : Nat} (h : j < n) : am_cp D r0 r1 0 0 n r1 j = D r0 j := by
  have z := cp_in (D := D) (r0 := r0) (r1 := r1) (dp := 0) (n := n) (q := j) h
  rw [Nat.zero_add] at z; exact z
theorem im_av {f f' : Nat → Int} {l : Int} (h : ∀ j : Nat, (j : Int) < l → f' j = f j) (hl : 7460 ≤ l) : ∀ j : Nat, j < 7460 → f' j = f j := fun j h2 => h j (by omega)
