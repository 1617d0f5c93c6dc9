/-! a text that failed has said what was wrong -/
theorem TRr_f {s c g : Int} {b : Nat → Int} {n t : Nat} {D : Nat → Nat → Int} (h : TRr s b n t D c g) : g = 0 → ¬ D 79 17 = 0 := by
  rcases h with ⟨a, _⟩ | ⟨_, h1, h2, _⟩
  · intro z; omega
  · intro _; rw [h2]; exact h1
theorem TRr_c {s c c' g : Int} {b : Nat → Int} {n t : Nat} {D : Nat → Nat → Int} (h : TRr s b n t D c g) (e : c' = c) : TRr s b n t D c' g := by rw [e]; exact h
theorem TRa_c {c c' g : Int} {b : Nat → Int} {n t : Nat} {D : Nat → Nat → Int} (h : TRa b n t D c g) (e : c' = c) : TRa b n t D c' g := by rw [e]; exact h
