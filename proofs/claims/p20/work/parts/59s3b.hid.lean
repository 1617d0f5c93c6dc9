theorem CUR_d {s : Int} {b : Nat → Int} {n i : Nat} {D : Nat → Nat → Int} (h : CUR s b n D i) : 0 ≤ D 79 15 ∧ D 79 15 ≤ n ∧ D 79 13 ≤ n ∧ D 79 15 ≤ D 79 13 :=
  let z := CUR_b h
  ⟨z.1, z.2.1, z.2.2.1, z.2.2.2.2⟩
