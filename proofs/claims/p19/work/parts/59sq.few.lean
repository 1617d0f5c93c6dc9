/-! the fewest QUESTIONS that part all couples of RULES: how many bits a set has -/
theorem fw_nn {z : Int32} {n : Nat} (h : z.toBitVec.toNat = n) (hn : n < 2147483648) : z.toInt = (n : Int) := by
  have e : z.toInt = z.toBitVec.toNat := by
    show z.toBitVec.toInt = _
    exact BitVec.toInt_eq_toNat_of_lt (by omega)
  rw [e, h]
theorem fw_of {a : Int} (h : 0 ≤ a ∧ a ≤ 2147483647) : (Int32.ofInt a).toBitVec.toNat = a.toNat :=
  (i32_of (n := 31) ⟨h.1, by have h0 : (2:Int)^31 = 2147483648 := (by decide); omega⟩ (by decide)).1
theorem fw_and {a b : Int} (ha : 0 ≤ a ∧ a ≤ 2147483647) (hb : 0 ≤ b ∧ b ≤ 2147483647) : am_and a b = ((a.toNat &&& b.toNat : Nat) : Int) := by
  have hl : a.toNat &&& b.toNat ≤ a.toNat := Nat.and_le_left
  refine fw_nn ?_ (by omega)
  rw [Int32.toBitVec_and, BitVec.toNat_and, fw_of ha, fw_of hb]
theorem fw_ush {a b : Int} {k : Nat} (ha : 0 ≤ a ∧ a ≤ 2147483647) (e : ((Int32.ofInt b).toUInt32 &&& Int32.toUInt32 31) = UInt32.ofNat k) (hk : k < 32) : am_ushr a b = ((a.toNat >>> k : Nat) : Int) := by
  have hl : a.toNat >>> k ≤ a.toNat := by rw [Nat.shiftRight_eq_div_pow]; exact Nat.div_le_self _ _
  unfold am_ushr
  rw [e]
  refine fw_nn ?_ (by omega)
  show ((Int32.ofInt a).toUInt32 >>> UInt32.ofNat k).toNat = _
  rw [UInt32.toNat_shiftRight]
  have e1 : (UInt32.ofNat k).toNat = k := by
    show (BitVec.ofNat 32 k).toNat = k
    rw [BitVec.toNat_ofNat]; omega
  rw [e1, Nat.mod_eq_of_lt hk]
  show (Int32.ofInt a).toBitVec.toNat >>> k = _
  rw [fw_of ha]
theorem fw_kk : ∀ k : Fin 32, ((Int32.ofInt (k.val : Int) &&& 31).toBitVec.smod 32).toNat = k.val := by decide +kernel
theorem fw_shr {a : Int} {k : Nat} (ha : 0 ≤ a ∧ a ≤ 2147483647) (hk : k < 32) : am_shr a (k : Int) = ((a.toNat >>> k : Nat) : Int) := by
  have hl : a.toNat >>> k ≤ a.toNat := by rw [Nat.shiftRight_eq_div_pow]; exact Nat.div_le_self _ _
  unfold am_shr
  refine fw_nn ?_ (by omega)
  have hm : (Int32.ofInt a).toBitVec.msb = false := by
    rw [BitVec.msb_eq_decide, fw_of ha]
    simp
    omega
  rw [Int32.toBitVec_shiftRight, BitVec.sshiftRight_eq', BitVec.sshiftRight_eq_of_msb_false hm, BitVec.toNat_ushiftRight, fw_of ha, fw_kk ⟨k, hk⟩]
/-- as the JDK counts them -/
def fwB (x : Int) : Int :=
  am_and (((am_and (((am_and (x - (am_and (am_ushr x 1) 1431655765)) 858993459) + (am_and (am_ushr (x - (am_and (am_ushr x 1) 1431655765)) 2) 858993459)) + (am_ushr ((am_and (x - (am_and (am_ushr x 1) 1431655765)) 858993459) + (am_and (am_ushr (x - (am_and (am_ushr x 1) 1431655765)) 2) 858993459)) 4)) 252645135) + (am_ushr (am_and (((am_and (x - (am_and (am_ushr x 1) 1431655765)) 858993459) + (am_and (am_ushr (x - (am_and (am_ushr x 1) 1431655765)) 2) 858993459)) + (am_ushr ((am_and (x - (am_and (am_ushr x 1) 1431655765)) 858993459) + (am_and (am_ushr (x - (am_and (am_ushr x 1) 1431655765)) 2) 858993459)) 4)) 252645135) 8)) + (am_ushr ((am_and (((am_and (x - (am_and (am_ushr x 1) 1431655765)) 858993459) + (am_and (am_ushr (x - (am_and (am_ushr x 1) 1431655765)) 2) 858993459)) + (am_ushr ((am_and (x - (am_and (am_ushr x 1) 1431655765)) 858993459) + (am_and (am_ushr (x - (am_and (am_ushr x 1) 1431655765)) 2) 858993459)) 4)) 252645135) + (am_ushr (am_and (((am_and (x - (am_and (am_ushr x 1) 1431655765)) 858993459) + (am_and (am_ushr (x - (am_and (am_ushr x 1) 1431655765)) 2) 858993459)) + (am_ushr ((am_and (x - (am_and (am_ushr x 1) 1431655765)) 858993459) + (am_and (am_ushr (x - (am_and (am_ushr x 1) 1431655765)) 2) 858993459)) 4)) 252645135) 8)) 16)) 63
def fwN1 (n : Nat) : Nat := n - ((n >>> 1) &&& 1431655765)
def fwN2 (n : Nat) : Nat := (n &&& 858993459) + ((n >>> 2) &&& 858993459)
def fwN3 (n : Nat) : Nat := (n + (n >>> 4)) &&& 252645135
def fwN4 (n : Nat) : Nat := n + (n >>> 8)
def fwN5 (n : Nat) : Nat := (n + (n >>> 16)) &&& 63
theorem fw_sl (n k : Nat) : n >>> k ≤ n := by rw [Nat.shiftRight_eq_div_pow]; exact Nat.div_le_self _ _
theorem fwB_1 {x : Int} (h : 0 ≤ x ∧ x ≤ 4095) : x - (am_and (am_ushr x 1) 1431655765) = ((fwN1 x.toNat : Nat) : Int) ∧ fwN1 x.toNat ≤ 4095 := by
  have s := fw_sl x.toNat 1
  have l : (x.toNat >>> 1) &&& 1431655765 ≤ x.toNat >>> 1 := Nat.and_le_left
  unfold fwN1
  rw [fw_ush (k := 1) ⟨h.1, by omega⟩ (by decide) (by decide), fw_and ⟨by omega, by omega⟩ ⟨by decide, by decide⟩, Int.toNat_natCast]
  rw [show (1431655765 : Int).toNat = 1431655765 from rfl]
  omega
theorem fwB_2 {n : Nat} (h : n ≤ 4095) : (am_and (n : Int) 858993459) + (am_and (am_ushr (n : Int) 2) 858993459) = ((fwN2 n : Nat) : Int) ∧ fwN2 n ≤ 8190 := by
  have s := fw_sl n 2
  have l : (n >>> 2) &&& 858993459 ≤ n >>> 2 := Nat.and_le_left
  have l2 : n &&& 858993459 ≤ n := Nat.and_le_left
  unfold fwN2
  rw [fw_ush (k := 2) ⟨by omega, by omega⟩ (by decide) (by decide), Int.toNat_natCast, fw_and ⟨by omega, by omega⟩ ⟨by decide, by decide⟩, fw_and ⟨by omega, by omega⟩ ⟨by decide, by decide⟩, Int.toNat_natCast, Int.toNat_natCast]
  rw [show (858993459 : Int).toNat = 858993459 from rfl]
  omega
theorem fwB_3 {n : Nat} (h : n ≤ 8190) : am_and ((n : Int) + (am_ushr (n : Int) 4)) 252645135 = ((fwN3 n : Nat) : Int) ∧ fwN3 n ≤ 16380 := by
  have s := fw_sl n 4
  have l : (n + (n >>> 4)) &&& 252645135 ≤ n + (n >>> 4) := Nat.and_le_left
  unfold fwN3
  rw [fw_ush (k := 4) ⟨by omega, by omega⟩ (by decide) (by decide), Int.toNat_natCast, fw_and ⟨by omega, by omega⟩ ⟨by decide, by decide⟩]
  rw [show (252645135 : Int).toNat = 252645135 from rfl, show ((n : Int) + ((n >>> 4 : Nat) : Int)).toNat = n + (n >>> 4) by omega]
  exact ⟨rfl, by omega⟩
theorem fwB_4 {n : Nat} (h : n ≤ 16380) : (n : Int) + (am_ushr (n : Int) 8) = ((fwN4 n : Nat) : Int) ∧ fwN4 n ≤ 32760 := by
  have s := fw_sl n 8
  unfold fwN4
  rw [fw_ush (k := 8) ⟨by omega, by omega⟩ (by decide) (by decide), Int.toNat_natCast]
  omega
theorem fwB_5 {n : Nat} (h : n ≤ 32760) : am_and ((n : Int) + (am_ushr (n : Int) 16)) 63 = ((fwN5 n : Nat) : Int) := by
  have s := fw_sl n 16
  unfold fwN5
  rw [fw_ush (k := 16) ⟨by omega, by omega⟩ (by decide) (by decide), Int.toNat_natCast, fw_and ⟨by omega, by omega⟩ ⟨by decide, by decide⟩]
  rw [show (63 : Int).toNat = 63 from rfl, show ((n : Int) + ((n >>> 16 : Nat) : Int)).toNat = n + (n >>> 16) by omega]
theorem fwB_n {x : Int} (h : 0 ≤ x ∧ x ≤ 4095) : fwB x = ((fwN5 (fwN4 (fwN3 (fwN2 (fwN1 x.toNat)))) : Nat) : Int) := by
  have h1 := fwB_1 h
  have h2 := fwB_2 h1.2
  have h3 := fwB_3 h2.2
  have h4 := fwB_4 h3.2
  unfold fwB
  rw [h1.1, h2.1, h3.1, h4.1]
  exact fwB_5 h4.2
/-- as the reference counts them -/
def fwC (x : Int) : Nat → Int
  | 0 => 0
  | k + 1 => fwC x k + am_and (am_shr x (k : Int)) 1
def fwM (n : Nat) : Nat → Nat
  | 0 => 0
  | k + 1 => fwM n k + ((n >>> k) &&& 1)
theorem fwC_n {x : Int} (h : 0 ≤ x ∧ x ≤ 4095) : ∀ k : Nat, k ≤ 24 → fwC x k = ((fwM x.toNat k : Nat) : Int)
  | 0, _ => rfl
  | k + 1, hk => by
    show fwC x k + am_and (am_shr x (k : Int)) 1 = ((fwM x.toNat k + ((x.toNat >>> k) &&& 1) : Nat) : Int)
    rw [fwC_n h k (by omega), fw_shr ⟨h.1, by omega⟩ (by omega)]
    have s := fw_sl x.toNat k
    generalize x.toNat >>> k = y at s ⊢
    rw [fw_and ⟨by omega, by omega⟩ ⟨by decide, by decide⟩, Int.toNat_natCast, show (1 : Int).toNat = 1 from rfl]
    omega
theorem fw_dec : ∀ i : Fin 64, ∀ j : Fin 64, fwN5 (fwN4 (fwN3 (fwN2 (fwN1 (64 * i.val + j.val))))) = fwM (64 * i.val + j.val) 24 := by decide +kernel
theorem fwB_e {x : Int} (h : 0 ≤ x ∧ x ≤ 4095) : fwB x = fwC x 24 := by
  have z := fw_dec ⟨x.toNat / 64, by omega⟩ ⟨x.toNat % 64, by omega⟩
  rw [fwB_n h, fwC_n h 24 (by decide)]
  rw [show 64 * (x.toNat / 64) + x.toNat % 64 = x.toNat by omega] at z
  rw [z]
theorem fwC_s {x l v : Int} (h : v = fwC x l.toNat) (hl : 0 ≤ l) : v + am_and (am_shr x l) 1 = fwC x (l + 1).toNat := by
  rw [show (l + 1).toNat = l.toNat + 1 by omega]
  show _ = fwC x l.toNat + am_and (am_shr x ((l.toNat : Nat) : Int)) 1
  rw [h, show ((l.toNat : Nat) : Int) = l by omega]
theorem fwC_e {x l v : Int} (h : v = fwC x l.toNat) (hl : l = 24) : v = fwC x 24 := by subst hl; exact h
theorem fw_shl : ∀ n : Fin 13, am_shl 1 (n.val : Int) ≤ 4096 := by decide +kernel
theorem fw_shl12 {n : Int} (h : 0 ≤ n ∧ n ≤ 12) : am_shl 1 n ≤ 4096 := by
  have z := fw_shl ⟨n.toNat, by omega⟩
  rw [show ((n.toNat : Nat) : Int) = n by omega] at z
  exact z
/-! couples: what is listed -/
def fwI (r : Int) (x : Nat) : Prop := am_and (am_shr r (x : Int)) 1 = 1
def fwA (r : Int) (x y : Nat) : Prop := x < y ∧ y < 8 ∧ fwI r x ∧ fwI r y
def fwL (A : Nat → Int) (m : Int) (P : Nat → Nat → Int) (C : Nat → Nat → Prop) : Prop :=
  (∀ i : Nat, (i : Int) < m → ∃ x y, C x y ∧ A i = P x y) ∧ (∀ x y, C x y → ∃ i : Nat, (i : Int) < m ∧ A i = P x y)
theorem fwL_0 {A : Nat → Int} {P : Nat → Nat → Int} {C : Nat → Nat → Prop} (h : ∀ x y, ¬ C x y) : fwL A 0 P C := ⟨fun i hi => by omega, fun x y c => absurd c (h x y)⟩
theorem fwL_c {A : Nat → Int} {m : Int} {P : Nat → Nat → Int} {C C' : Nat → Nat → Prop} (h : fwL A m P C) (e : ∀ x y, C' x y ↔ C x y) : fwL A m P C' :=
  ⟨fun i hi => by obtain ⟨x, y, c, z⟩ := h.1 i hi; exact ⟨x, y, (e x y).2 c, z⟩, fun x y c => h.2 x y ((e x y).1 c)⟩
theorem fwL_s {A A' : Nat → Int} {m : Int} {P : Nat → Nat → Int} {C C' : Nat → Nat → Prop} {x y : Nat} (h : fwL A m P C) (hm : 0 ≤ m) (e : ∀ u v, C' u v ↔ (C u v ∨ (u = x ∧ v = y))) (k1 : A' m.toNat = P x y) (k2 : ∀ j : Nat, (j : Int) < m → A' j = A j) : fwL A' (m + 1) P C' := by
  refine ⟨fun i hi => ?_, fun u v c => ?_⟩
  · by_cases q : (i : Int) < m
    · obtain ⟨u, v, c, z⟩ := h.1 i q
      exact ⟨u, v, (e u v).2 (.inl c), (k2 i q).trans z⟩
    · refine ⟨x, y, (e x y).2 (.inr ⟨rfl, rfl⟩), ?_⟩
      rw [show i = m.toNat by omega]; exact k1
  · rcases (e u v).1 c with c | ⟨e1, e2⟩
    · obtain ⟨i, hi, z⟩ := h.2 u v c
      exact ⟨i, by omega, (k2 i hi).trans z⟩
    · subst e1; subst e2; exact ⟨m.toNat, by omega, k1⟩
theorem fwL_k {A A' : Nat → Int} {m : Int} {P : Nat → Nat → Int} {C : Nat → Nat → Prop} (h : fwL A m P C) (k : ∀ j : Nat, A' j = A j) : fwL A' m P C := by
  rw [show A' = A from funext k]; exact h
/-- the class's order -/
def fwO (r l3 l4 : Int) (x y : Nat) : Prop := fwA r x y ∧ ((x : Int) < l3 ∨ ((x : Int) = l3 ∧ (y : Int) < l4))
theorem fwO_0 {r : Int} (x y : Nat) : ¬ fwO r 0 0 x y := fun h => by have := h.2; omega
theorem fwO_i {r l3 : Int} (x y : Nat) : fwO r l3 (l3 + 1) x y ↔ fwO r l3 0 x y := by
  constructor
  · rintro ⟨a, b⟩; have := a.1; exact ⟨a, by omega⟩
  · rintro ⟨a, b⟩; exact ⟨a, by omega⟩
theorem fwO_o {r l3 l4 : Int} (h : 8 ≤ l4) (x y : Nat) : fwO r (l3 + 1) 0 x y ↔ fwO r l3 l4 x y := by
  constructor
  · rintro ⟨a, b⟩; have := a.2.1; exact ⟨a, by omega⟩
  · rintro ⟨a, b⟩; exact ⟨a, by omega⟩
theorem fwI_n {r l : Int} (h : 0 ≤ l) (c : am_and (am_shr r l) 1 = 1) : fwI r l.toNat := by
  unfold fwI; rw [show ((l.toNat : Nat) : Int) = l by omega]; exact c
theorem fwI_m {r l : Int} (h : 0 ≤ l) (c : ¬ am_and (am_shr r l) 1 = 1) : ¬ fwI r l.toNat := by
  unfold fwI; rw [show ((l.toNat : Nat) : Int) = l by omega]; exact c
theorem fwO_y {r l3 l4 : Int} (h : 0 ≤ l3 ∧ l3 < l4 ∧ l4 < 8) (c3 : am_and (am_shr r l3) 1 = 1) (c4 : am_and (am_shr r l4) 1 = 1) (u v : Nat) : fwO r l3 (l4 + 1) u v ↔ (fwO r l3 l4 u v ∨ (u = l3.toNat ∧ v = l4.toNat)) := by
  constructor
  · rintro ⟨a, b⟩
    by_cases q : u = l3.toNat ∧ v = l4.toNat
    · exact .inr q
    · exact .inl ⟨a, by omega⟩
  · rintro (⟨a, b⟩ | ⟨e1, e2⟩)
    · exact ⟨a, by omega⟩
    · subst e1; subst e2
      exact ⟨⟨by omega, by omega, fwI_n (by omega) c3, fwI_n (by omega) c4⟩, by omega⟩
theorem fwO_n {r l3 l4 : Int} (h : 0 ≤ l3 ∧ l3 < l4 ∧ l4 < 8) (c : ¬ am_and (am_shr r l3) 1 = 1 ∨ ¬ am_and (am_shr r l4) 1 = 1) (u v : Nat) : fwO r l3 (l4 + 1) u v ↔ fwO r l3 l4 u v := by
  constructor
  · rintro ⟨a, b⟩
    by_cases q : u = l3.toNat ∧ v = l4.toNat
    · obtain ⟨e1, e2⟩ := q
      subst e1; subst e2
      rcases c with c | c
      · exact absurd a.2.2.1 (fwI_m (by omega) c)
      · exact absurd a.2.2.2 (fwI_m (by omega) c)
    · exact ⟨a, by omega⟩
  · rintro ⟨a, b⟩; exact ⟨a, by omega⟩
theorem fwO_e {r l3 : Int} (h : 8 ≤ l3) (x y : Nat) : fwA r x y ↔ fwO r l3 0 x y := by
  constructor
  · intro a; have := a.1; have := a.2.1; exact ⟨a, by omega⟩
  · exact fun a => a.1
/-- the reference's order: l3 the greater one -/
def fwR (r l3 l4 : Int) (x y : Nat) : Prop := fwA r x y ∧ ((y : Int) < l3 ∨ ((y : Int) = l3 ∧ (x : Int) < l4))
theorem fwR_0 {r : Int} (x y : Nat) : ¬ fwR r 0 0 x y := fun h => by have := h.2; omega
theorem fwR_o {r l3 l4 : Int} (h : l3 ≤ l4) (x y : Nat) : fwR r (l3 + 1) 0 x y ↔ fwR r l3 l4 x y := by
  constructor
  · rintro ⟨a, b⟩; have := a.1; exact ⟨a, by omega⟩
  · rintro ⟨a, b⟩; exact ⟨a, by omega⟩
theorem fw_a1 {a b : Int} (c : ¬ am_and (am_and a b) 1 = 0) : am_and a 1 = 1 ∧ am_and b 1 = 1 := by
  have h1 := and_R1 (a := a)
  have h2 := and_R1 (a := b)
  by_cases q : am_and b 1 = 0
  · refine absurd ?_ c
    unfold am_and at q ⊢
    rw [Int32.ofInt_toInt, Int32.and_assoc, show (Int32.ofInt b &&& Int32.ofInt 1) = 0 from Int32.toInt_inj.1 q]
    rw [Int32.and_zero]
    rfl
  · by_cases p : am_and a 1 = 0
    · refine absurd ?_ c
      unfold am_and at p ⊢
      rw [Int32.ofInt_toInt, Int32.and_comm (Int32.ofInt a), Int32.and_assoc, show (Int32.ofInt a &&& Int32.ofInt 1) = 0 from Int32.toInt_inj.1 p]
      rw [Int32.and_zero]
      rfl
    · omega
theorem fw_a0 {a b : Int} (c : am_and (am_and a b) 1 = 0) : ¬ (am_and a 1 = 1 ∧ am_and b 1 = 1) := by
  rintro ⟨p, q⟩
  unfold am_and at p q c
  rw [Int32.ofInt_toInt, Int32.and_assoc, show (Int32.ofInt b &&& Int32.ofInt 1) = Int32.ofInt 1 from Int32.toInt_inj.1 (q.trans (by decide)), p] at c
  exact absurd c (by decide)
theorem fwR_y {r l3 l4 : Int} (h : 0 ≤ l4 ∧ l4 < l3 ∧ l3 < 8) (c : ¬ am_and (am_and (am_shr r l3) (am_shr r l4)) 1 = 0) (u v : Nat) : fwR r l3 (l4 + 1) u v ↔ (fwR r l3 l4 u v ∨ (u = l4.toNat ∧ v = l3.toNat)) := by
  have cc := fw_a1 c
  constructor
  · rintro ⟨a, b⟩
    by_cases q : u = l4.toNat ∧ v = l3.toNat
    · exact .inr q
    · exact .inl ⟨a, by omega⟩
  · rintro (⟨a, b⟩ | ⟨e1, e2⟩)
    · exact ⟨a, by omega⟩
    · subst e1; subst e2
      exact ⟨⟨by omega, by omega, fwI_n (by omega) cc.2, fwI_n (by omega) cc.1⟩, by omega⟩
theorem fwR_n {r l3 l4 : Int} (h : 0 ≤ l4 ∧ l4 < l3 ∧ l3 < 8) (c : am_and (am_and (am_shr r l3) (am_shr r l4)) 1 = 0) (u v : Nat) : fwR r l3 (l4 + 1) u v ↔ fwR r l3 l4 u v := by
  have cc := fw_a0 c
  constructor
  · rintro ⟨a, b⟩
    by_cases q : u = l4.toNat ∧ v = l3.toNat
    · obtain ⟨e1, e2⟩ := q
      subst e1; subst e2
      have g3 := a.2.2.2
      have g4 := a.2.2.1
      unfold fwI at g3 g4
      rw [show ((l3.toNat : Nat) : Int) = l3 by omega] at g3
      rw [show ((l4.toNat : Nat) : Int) = l4 by omega] at g4
      exact absurd ⟨g3, g4⟩ cc
    · exact ⟨a, by omega⟩
  · rintro ⟨a, b⟩; exact ⟨a, by omega⟩
theorem fwR_e {r l3 : Int} (h : 8 ≤ l3) (x y : Nat) : fwA r x y ↔ fwR r l3 0 x y := by
  constructor
  · intro a; have := a.1; have := a.2.1; exact ⟨a, by omega⟩
  · exact fun a => a.1
/-- how many couples there are whose lesser one is below a -/
def fwT (a : Int) : Int := a * (15 - a) / 2
theorem fwT_s {a : Int} (h : 0 ≤ a ∧ a ≤ 7) : fwT (a + 1) = fwT a + 7 - a := by
  rcases (show a = 0 ∨ a = 1 ∨ a = 2 ∨ a = 3 ∨ a = 4 ∨ a = 5 ∨ a = 6 ∨ a = 7 by omega) with e | e | e | e | e | e | e | e <;> subst e <;> decide
theorem fwT_8 {a : Int} (h : 0 ≤ a ∧ a ≤ 8) : 0 ≤ fwT a ∧ fwT a ≤ 28 := by
  rcases (show a = 0 ∨ a = 1 ∨ a = 2 ∨ a = 3 ∨ a = 4 ∨ a = 5 ∨ a = 6 ∨ a = 7 ∨ a = 8 by omega) with e | e | e | e | e | e | e | e | e <;> subst e <;> decide
theorem fwT_0 : fwT 0 = 0 := by decide
/-! the best set -/
def fwP (S : Nat → Int → Int) (n : Int) (x y : Nat) : Int := PTB S (x : Int) (y : Int) n.toNat
theorem fwP_c {S : Nat → Int → Int} {n a b : Int} (h : 0 ≤ a ∧ 0 ≤ b) : PTB S a b n.toNat = fwP S n a.toNat b.toNat := by
  unfold fwP; rw [show ((a.toNat : Nat) : Int) = a by omega, show ((b.toNat : Nat) : Int) = b by omega]
theorem fwP_r {S : Nat → Int → Int} {n a b : Int} (h : 0 ≤ a ∧ 0 ≤ b) : PTB S a b n.toNat = fwP S n b.toNat a.toNat := by
  rw [PTB_s]; exact fwP_c ⟨h.2, h.1⟩
def fwD (P : Nat → Nat → Int) (r t : Int) : Prop := ∀ x y, fwA r x y → ¬ am_and (P x y) t = 0
theorem fwD_y {A : Nat → Int} {m : Int} {P : Nat → Nat → Int} {r t : Int} (h : fwL A m P (fwA r)) (k : ∀ i : Nat, (i : Int) < m → ¬ am_and (A i) t = 0) : fwD P r t := fun x y c => by
  obtain ⟨i, hi, z⟩ := h.2 x y c
  rw [← z]; exact k i hi
theorem fwD_n {A : Nat → Int} {m : Int} {P : Nat → Nat → Int} {r t : Int} (h : fwL A m P (fwA r)) (k : ∃ i : Nat, (i : Int) < m ∧ am_and (A i) t = 0) : ¬ fwD P r t := fun q => by
  obtain ⟨i, hi, z⟩ := k
  obtain ⟨x, y, c, e⟩ := h.1 i hi
  exact q x y c (by rw [← e]; exact z)
theorem fwD_c {P P' : Nat → Nat → Int} {r t : Int} (h : ∀ x y, fwA r x y → P x y = P' x y) (d : fwD P r t) : fwD P' r t := fun x y c => by rw [← h x y c]; exact d x y c
/-- of the sets below s the best one is b -/
def fwX (P : Nat → Nat → Int) (r s b : Int) : Prop :=
  (b = -1 ∧ ∀ t : Int, 0 ≤ t → t < s → ¬ fwD P r t) ∨ ((0 ≤ b ∧ b < s) ∧ fwD P r b ∧ ∀ t : Int, 0 ≤ t → t < s → fwD P r t → fwC b 24 < fwC t 24 ∨ (fwC b 24 = fwC t 24 ∧ b ≤ t))
theorem fwX_0 {P : Nat → Nat → Int} {r : Int} : fwX P r 0 (-1) := .inl ⟨rfl, fun t h1 h2 => by omega⟩
theorem fwX_y {P : Nat → Nat → Int} {r s b : Int} (h : fwX P r s b) (hs : 0 ≤ s) (c : b = -1 ∨ fwC s 24 < fwC b 24) (d : fwD P r s) : fwX P r (s + 1) s := by
  refine .inr ⟨⟨hs, by omega⟩, d, fun t h1 h2 g => ?_⟩
  by_cases e : t = s
  · subst e; exact .inr ⟨rfl, Int.le_refl _⟩
  · rcases h with ⟨_, h⟩ | ⟨k, _, h⟩
    · exact absurd g (h t h1 (by omega))
    · have := h t h1 (by omega) g
      rcases c with c | c
      · omega
      · exact .inl (by omega)
theorem fwX_n {P : Nat → Nat → Int} {r s b : Int} (h : fwX P r s b) (c : (¬ b = -1 ∧ ¬ fwC s 24 < fwC b 24) ∨ ¬ fwD P r s) : fwX P r (s + 1) b := by
  rcases h with ⟨e, h⟩ | ⟨k, d, h⟩
  · refine .inl ⟨e, fun t h1 h2 g => ?_⟩
    by_cases q : t = s
    · subst q
      rcases c with c | c
      · exact c.1 e
      · exact c g
    · exact h t h1 (by omega) g
  · refine .inr ⟨by omega, d, fun t h1 h2 g => ?_⟩
    by_cases q : t = s
    · subst q
      rcases c with c | c
      · by_cases z : fwC b 24 = fwC t 24
        · exact .inr ⟨z, by omega⟩
        · exact .inl (by omega)
      · exact absurd g c
    · exact h t h1 (by omega) g
theorem fwX_c {P P' : Nat → Nat → Int} {r s b : Int} (e : ∀ x y, fwA r x y → P x y = P' x y) (h : fwX P r s b) : fwX P' r s b := by
  have e' : ∀ x y, fwA r x y → P' x y = P x y := fun x y c => (e x y c).symm
  rcases h with ⟨q, h⟩ | ⟨k, d, h⟩
  · exact .inl ⟨q, fun t h1 h2 g => h t h1 h2 (fwD_c e' g)⟩
  · exact .inr ⟨k, fwD_c e d, fun t h1 h2 g => h t h1 h2 (fwD_c e' g)⟩
theorem fwX_u {P : Nat → Nat → Int} {r s b b' : Int} (h : fwX P r s b) (h' : fwX P r s b') : b = b' := by
  rcases h with ⟨q, h⟩ | ⟨k, d, h⟩
  · rcases h' with ⟨q', _⟩ | ⟨k', d', _⟩
    · rw [q, q']
    · exact absurd d' (h b' k'.1 k'.2)
  · rcases h' with ⟨q', h'⟩ | ⟨k', d', h'⟩
    · exact absurd d (h' b k.1 k.2)
    · have u := h b' k'.1 k'.2 d'
      have u' := h' b k.1 k.2 d
      omega
theorem fwX_v {A f : Nat → Int} {n n' r s s' b b' : Int} (hS : SDL A f) (hn : n = f 1) (hn' : n' = f 1) (hs : s = s') (h : fwX (fwP (SDC A) n) r s b) (h' : fwX (fwP (SAID f) n') r s' b') : b = b' := by
  subst hs; subst hn'; subst hn
  refine fwX_u (fwX_c (fun x y c => ?_) h) h'
  have c1 := c.1
  have c2 := c.2.1
  unfold fwP
  exact PTB_L hS ⟨by omega, by omega⟩ ⟨by omega, by omega⟩ rfl
/-- what holds where v is c -/
def fwE (v c : Int) (P : Prop) : Prop := v = c → P
theorem fwE_i {v c : Int} {P : Prop} (h : v = c → P) : fwE v c P := h
theorem fwE_e {v c : Int} {P : Prop} (h : fwE v c P) (e : v = c) : P := h e
