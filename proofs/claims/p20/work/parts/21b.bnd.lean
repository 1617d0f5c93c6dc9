/-! what is wider than a fact -/
theorem bnd {x lo hi lo' hi' : Int} (h : lo ≤ x ∧ x ≤ hi) (h1 : lo' ≤ lo) (h2 : hi ≤ hi') : lo' ≤ x ∧ x ≤ hi' := ⟨Int.le_trans h1 h.1, Int.le_trans h.2 h2⟩
theorem bndp {x lo hi lo' hi' c : Int} (h : lo ≤ x ∧ x ≤ hi) (h1 : lo' ≤ lo + c) (h2 : hi + c ≤ hi') : lo' ≤ x + c ∧ x + c ≤ hi' := ⟨Int.le_trans h1 (Int.add_le_add_right h.1 c), Int.le_trans (Int.add_le_add_right h.2 c) h2⟩
theorem bndx {x lo hi n : Int} (h : lo ≤ x ∧ x ≤ hi) (h1 : 0 ≤ lo) (h2 : hi < n) : 0 ≤ x ∧ x < n := ⟨Int.le_trans h1 h.1, Int.lt_of_le_of_lt h.2 h2⟩
theorem bndc {x lo hi b n : Int} (h : lo ≤ x ∧ x ≤ hi) (c : ¬ b ≤ x) (h1 : 0 ≤ lo) (h2 : b ≤ n) : 0 ≤ x ∧ x < n := ⟨Int.le_trans h1 h.1, Int.lt_of_lt_of_le (Int.not_le.1 c) h2⟩
theorem bndd {x lo hi b lo' hi' : Int} (h : lo ≤ x ∧ x ≤ hi) (c : ¬ b ≤ x) (h1 : lo' ≤ lo) (h2 : b ≤ hi' + 1) : lo' ≤ x ∧ x ≤ hi' := ⟨Int.le_trans h1 h.1, Int.le_of_lt_add_one (Int.lt_of_lt_of_le (Int.not_le.1 c) h2)⟩
theorem bnde {x lo hi b lo' hi' c : Int} (h : lo ≤ x ∧ x ≤ hi) (q : ¬ b ≤ x) (h1 : lo' ≤ lo + c) (h2 : b + c ≤ hi' + 1) : lo' ≤ x + c ∧ x + c ≤ hi' := ⟨Int.le_trans h1 (Int.add_le_add_right h.1 c), Int.le_of_lt_add_one (Int.lt_of_lt_of_le (Int.add_lt_add_right (Int.not_le.1 q) c) h2)⟩
theorem bnd1 {x lo hi lo' : Int} (h : lo ≤ x ∧ x ≤ hi) (h1 : lo' ≤ lo) : lo' ≤ x := Int.le_trans h1 h.1
theorem bnd2 {x lo hi hi' : Int} (h : lo ≤ x ∧ x ≤ hi) (h2 : hi ≤ hi') : x ≤ hi' := Int.le_trans h.2 h2
/-! what omega isn't to see -/
def HID (p : Prop) : Prop := p
theorem hid {p : Prop} (h : p) : HID p := h
theorem unhid {p : Prop} (h : HID p) : p := h
