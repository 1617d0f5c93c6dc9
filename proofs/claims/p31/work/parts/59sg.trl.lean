theorem TRl_c {c c' g : Int} {b : Nat → Int} {n t : Nat} {D : Nat → Nat → Int} (h : TRl b n t D c g) (e : c' = c) : TRl b n t D c' g := by rw [e]; exact h
