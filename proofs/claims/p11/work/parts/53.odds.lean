theorem PBI_s1 {D : Nat → Nat → Int} {n r x : Int} (h : PBI (D 102) n r) (hn : 0 ≤ n ∧ n ≤ 12) (hr : 0 ≤ r ∧ r < 8) (hx : x = D 102 r.toNat * 1) : PBI (u2 D 102 r.toNat x 102) n (r + 1) := by
  have e := p9_R hn
  have z := h r.toNat (by omega)
  have z3 := z.2.2 (by omega)
  refine PBI_s h hn hr (Or.inr rfl) ?_
  rw [hx, wl_id (by omega) (by omega)]
