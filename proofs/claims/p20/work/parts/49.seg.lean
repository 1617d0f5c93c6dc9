/-! what the reference's reader lays: well made runs of steps -/
def PS (g : Nat → Int) (a b : Int) : Prop := 0 ≤ a ∧ a ≤ b ∧ Seg g a.toNat b.toNat
def AGR (g' g : Nat → Int) (a : Int) : Prop := ∀ j : Nat, j < 2 * a.toNat → g' j = g j
theorem AGR_rfl {g : Nat → Int} {a : Int} : AGR g g a := fun _ _ => rfl
theorem AGR_tr {g0 g1 g1' g2 : Nat → Int} {a b : Int} (h2 : AGR g2 g1' b) (e : g1' = g1) (h1 : AGR g1 g0 a) (hab : a ≤ b) : AGR g2 g0 a := fun j hj => by
  subst e; exact (h2 j (by omega)).trans (h1 j hj)
theorem ef_app {g : Nat → Int} : ∀ (n m i : Nat) (t : Int), ef g (n + m) i t = (ef g n i t).bind (ef g m (i + n))
  | 0, m, i, t => by rw [Nat.zero_add]; rfl
  | n + 1, m, i, t => by
    rw [show n + 1 + m = (n + m) + 1 by omega]
    unfold ef
    cases h : efs (g (2 * i)) (g (2 * i + 1)) t with
    | none => rfl
    | some z =>
      show ef g (n + m) (i + 1) z = (ef g n (i + 1) z).bind (ef g m (i + (n + 1)))
      rw [ef_app n m (i + 1) z, show i + 1 + n = i + (n + 1) by omega]
theorem PS_unit {g g' : Nat → Int} {a b op : Int} (ha : 0 ≤ a) (h5 : g' (2 * a.toNat) = op) (ho : 0 ≤ op ∧ op ≤ 6) (hb : b = a + 1) : PS g' a b := by
  subst hb; subst h5
  refine ⟨ha, by omega, by omega, fun t ht => ?_⟩
  rw [show (a + 1).toNat - a.toNat = 0 + 1 by omega]
  unfold ef efs
  rw [if_pos ho]
  rfl
theorem Seg_un {g : Nat → Int} {a b : Nat} (h : Seg g a b) (ho : g (2 * b) = 14 ∨ (g (2 * b) = 10 ∧ 1 ≤ g (2 * b + 1) ∧ g (2 * b + 1) ≤ 9999)) : Seg g a (b + 1) := by
  have hab := h.1
  refine ⟨by omega, fun t ht => ?_⟩
  rw [show b + 1 - a = (b - a) + 1 by omega, ef_app, h.2 t ht, show a + (b - a) = b by omega]
  show ef g (0 + 1) b (t + 1) = _
  unfold ef efs
  rcases ho with e | ⟨e, e1, e2⟩
  · rw [if_neg (by omega), if_neg (by omega), if_pos e, if_pos (by omega)]; rfl
  · rw [if_neg (by omega), if_pos e, if_pos ⟨by omega, e1, e2⟩]; rfl
theorem Seg_bin {g : Nat → Int} {a b c : Nat} (h : Seg g a b) (h2 : Seg g b c) (ho : (7 ≤ g (2 * c) ∧ g (2 * c) ≤ 16) ∧ ¬ g (2 * c) = 10 ∧ ¬ g (2 * c) = 14) : Seg g a (c + 1) := by
  have hab := h.1
  have hbc := h2.1
  refine ⟨by omega, fun t ht => ?_⟩
  rw [show c + 1 - a = (b - a) + ((c - b) + 1) by omega, ef_app, h.2 t ht, show a + (b - a) = b by omega]
  show ef g ((c - b) + 1) b (t + 1) = _
  rw [ef_app, h2.2 (t + 1) (by omega), show b + (c - b) = c by omega]
  show ef g (0 + 1) c (t + 1 + 1) = _
  unfold ef efs
  rw [if_neg (by omega), if_neg ho.2.1, if_neg ho.2.2, if_pos ho.1, if_pos (by omega)]
  show some (t + 1 + 1 - 1) = _
  congr 1; omega
theorem PS_mono {g g' : Nat → Int} {a b : Int} (h : PS g a b) (hg : AGR g' g b) : PS g' a b := ⟨h.1, h.2.1, Seg_con h.2.2 hg⟩
theorem PS_bin {g0 g1 g2 g3 : Nat → Int} {a b b1 c c1 op : Int} (h4 : AGR g3 g2 c) (h5 : g3 (2 * c.toNat) = op) (h2 : PS g2 b1 c) (h3 : AGR g2 g1 b1) (e : g1 = g0) (h1 : PS g0 a b) (hb : b1 = b) (ho : (7 ≤ op ∧ op ≤ 16) ∧ ¬ op = 10 ∧ ¬ op = 14) (hc : c1 = c + 1) : PS g3 a c1 := by
  subst e; subst hb; subst hc; subst h5
  have k1 : Seg g3 a.toNat b1.toNat := Seg_con h1.2.2 (fun j hj => (h4 j (by have := h2.2.1; have := h1.2.1; have := h1.1; omega)).trans (h3 j hj))
  have k2 : Seg g3 b1.toNat c.toNat := Seg_con h2.2.2 h4
  have := h1.1; have := h1.2.1; have := h2.2.1
  refine ⟨h1.1, by omega, ?_⟩
  rw [show (c + 1).toNat = c.toNat + 1 by omega]
  exact Seg_bin k1 k2 ho
theorem PS_un {g1 g2 g3 : Nat → Int} {a a1 c c0 c1 op v : Int} (h4 : AGR g3 g2 c) (h5 : g3 (2 * c.toNat) = op) (h6 : g3 (2 * c.toNat + 1) = v) (e : g2 = g1) (h2 : PS g1 a1 c0) (ha : a1 = a) (hc0 : c = c0) (ho : op = 14 ∨ (op = 10 ∧ 1 ≤ v ∧ v ≤ 9999)) (hc : c1 = c + 1) : PS g3 a c1 := by
  subst e; subst ha; subst hc; subst h5; subst h6; subst hc0
  have k : Seg g3 a1.toNat c.toNat := Seg_con h2.2.2 h4
  have := h2.1; have := h2.2.1
  refine ⟨h2.1, by omega, ?_⟩
  rw [show (c + 1).toNat = c.toNat + 1 by omega]
  exact Seg_un k ho
theorem PS_eq {g1 g2 : Nat → Int} {a a1 c c1 : Int} (h2 : PS g1 a1 c) (e : g2 = g1) (ha : a1 = a) (hc : c1 = c) : PS g2 a c1 := by
  subst e; subst ha; subst hc; exact h2
theorem AGR_2 {g0 g1 g2 : Nat → Int} {a a1 : Int} (h : AGR g2 g1 a1) (e : g1 = g0) (ha : a1 = a) : AGR g2 g0 a := by subst e; subst ha; exact h
theorem AGR_e {g0 g1 : Nat → Int} {a : Int} (e : g1 = g0) : AGR g1 g0 a := by subst e; exact AGR_rfl
def SV (t : Nat → Int) (n p : Int) : Int := if p < n then t p.toNat else -1
def p9 : Nat → Int
  | 0 => 1
  | n + 1 => 9 * p9 n
theorem p9_s {n m : Int} (h : 0 ≤ n) (hm : m = n + 1) : p9 m.toNat = 9 * p9 n.toNat := by
  subst hm; rw [show (n + 1).toNat = n.toNat + 1 by omega]; rfl
theorem p9_R {n : Int} (h : 0 ≤ n ∧ n ≤ 12) : 1 ≤ p9 n.toNat ∧ p9 n.toNat ≤ 282429536481 := by
  have : ∀ j : Fin 13, 1 ≤ p9 j.val ∧ p9 j.val ≤ 282429536481 := by decide +kernel
  exact this ⟨n.toNat, by omega⟩
def PB (g : Nat → Int) (n : Int) : Prop := ∀ q : Nat, q < 8 → 1 ≤ g q ∧ g q ≤ p9 n.toNat
def PBI (g : Nat → Int) (n r : Int) : Prop := ∀ q : Nat, q < 8 → 1 ≤ g q ∧ ((q : Int) < r → g q ≤ p9 n.toNat) ∧ (r ≤ (q : Int) → 9 * g q ≤ p9 n.toNat)
theorem PB_fr {S : List Nat} {d0 d1 : Nat → Nat → Int} {k : Nat} {n : Int} (h : PB (d0 k) n) (hF : Fr S d0 d1) (hs : k ∉ S) : PB (d1 k) n := fun q hq => by rw [hF k hs]; exact h q hq
theorem PBI_fr {S : List Nat} {d0 d1 : Nat → Nat → Int} {k : Nat} {n r : Int} (h : PBI (d0 k) n r) (hF : Fr S d0 d1) (hs : k ∉ S) : PBI (d1 k) n r := fun q hq => by rw [hF k hs]; exact h q hq
theorem PBI_0 {g : Nat → Int} {n m : Int} (h : PB g n) (hn : 0 ≤ n) (hm : m = n + 1) : PBI g m 0 := fun q hq => by
  have := h q hq
  have e := p9_s hn hm
  exact ⟨this.1, fun z => by omega, fun _ => by omega⟩
theorem PBI_8 {g : Nat → Int} {n r : Int} (h : PBI g n r) (hr : r = 8) : PB g n := fun q hq => ⟨(h q hq).1, (h q hq).2.1 (by omega)⟩
theorem PB_mono {g : Nat → Int} {n m : Int} (h : PB g n) (hn : 0 ≤ n ∧ n ≤ 12) (hm : m = 12) : PB g m := fun q hq => by
  subst hm
  have := h q hq
  have e := p9_R hn
  have e2 : p9 (12 : Int).toNat = 282429536481 := by decide +kernel
  exact ⟨this.1, by omega⟩
theorem PBI_s {D : Nat → Nat → Int} {n r x y : Int} (h : PBI (D 102) n r) (hn : 0 ≤ n ∧ n ≤ 12) (hr : 0 ≤ r ∧ r < 8) (hy : y = 9 ∨ y = 1) (hx : x = wl (D 102 r.toNat * y)) : PBI (u2 D 102 r.toNat x 102) n (r + 1) := by
  intro q hq
  have e := p9_R hn
  have z := h r.toNat (by omega)
  have z3 := z.2.2 (by omega)
  have ex : x = D 102 r.toNat * y := by
    rw [hx]
    rcases hy with rfl | rfl
    · exact wl_id (by omega) (by omega)
    · exact wl_id (by omega) (by omega)
  by_cases c : q = r.toNat
  · subst c
    rw [u2_eq, ex]
    rcases hy with rfl | rfl
    · exact ⟨by omega, fun _ => by omega, fun w => by omega⟩
    · exact ⟨by omega, fun _ => by omega, fun w => by omega⟩
  · rw [u2_ne (fun w => c w.2)]
    have v := h q hq
    exact ⟨v.1, fun w => v.2.1 (by omega), fun w => v.2.2 (by omega)⟩
theorem PBO_0 {g : Nat → Int} : ∀ q : Nat, (q : Int) < 0 → g q = 1 := fun q h => by omega
theorem PBO_s {D : Nat → Nat → Int} {r : Int} (h : ∀ q : Nat, (q : Int) < r → D 102 q = 1) (hr : 0 ≤ r) : ∀ q : Nat, (q : Int) < r + 1 → u2 D 102 r.toNat 1 102 q = 1 := by
  intro q hq
  by_cases c : q = r.toNat
  · subst c; exact u2_eq
  · rw [u2_ne (fun w => c w.2)]; exact h q (by omega)
theorem PBO_8 {g : Nat → Int} {r : Int} (h : ∀ q : Nat, (q : Int) < r → g q = 1) (hr : 8 ≤ r) : PB g 0 := fun q hq => by
  rw [h q (by omega)]; exact ⟨by decide, by decide⟩
