theorem PS_unit2 {g g' : Nat → Int} {a b op : Int} (e : g' = g) (h5 : g (2 * a.toNat) = op) (ha : 0 ≤ a) (ho : 0 ≤ op ∧ op ≤ 6) (hb : b = a + 1) : PS g' a b := by
  subst e; exact PS_unit (g := g') ha h5 ho hb
theorem AGR_4 {g0 g1 g1' g2 : Nat → Int} {a a1 : Int} (e : g2 = g1) (h : AGR g1 g1' a1) (e2 : g1' = g0) (ha : a1 = a) : AGR g2 g0 a := by
  subst e; subst e2; subst ha; exact h
