/-! HOW FAR TWO LAWS ARE APART, and the question they are farthest apart at -/
def ABS (x : Int) : Int := if 0 ≤ x then x else -x
theorem ABS_e {x v : Int} (h : v = x ∨ v = -x) (h0 : 0 ≤ v) : v = ABS x := by
  unfold ABS
  split <;> omega
def DFF (f : Nat → Int) (l1 l2 c q how a : Int) : Int := ABS (CHN f l1 c q how a - CHN f l2 c q how a)
theorem CHN_R {f : Nat → Int} {l c q how a : Int} : 0 ≤ CHN f l c q how a ∧ CHN f l c q how a ≤ 1000 := by
  rw [CHN_F]
  exact CHF_R
theorem DFF_R {f : Nat → Int} {l1 l2 c q how a : Int} : 0 ≤ DFF f l1 l2 c q how a ∧ DFF f l1 l2 c q how a ≤ 1000 := by
  have p := CHN_R (f := f) (l := l1) (c := c) (q := q) (how := how) (a := a)
  have r := CHN_R (f := f) (l := l2) (c := c) (q := q) (how := how) (a := a)
  unfold DFF ABS
  split <;> omega
/-- the class's order of the answers: 0, 1, 2, 3, none -/
def ANC (i : Int) : Int := if i < 4 then i else -1
def FCL (f : Nat → Int) (l1 l2 c q how : Int) : Nat → Int
  | 0 => 0
  | n + 1 => FCL f l1 l2 c q how n + DFF f l1 l2 c q how (ANC (n : Int))
/-- the reference's: none, 0, 1, 2, 3 -/
def FRF (f : Nat → Int) (l1 l2 c q how : Int) : Nat → Int
  | 0 => 0
  | n + 1 => FRF f l1 l2 c q how n + DFF f l1 l2 c q how ((n : Int) - 1)
theorem FCL_s {f : Nat → Int} {l1 l2 c q how i : Int} (h : 0 ≤ i) : FCL f l1 l2 c q how (i + 1).toNat = FCL f l1 l2 c q how i.toNat + DFF f l1 l2 c q how (ANC i) := by
  obtain ⟨n, rfl⟩ := Int.eq_ofNat_of_zero_le h
  rfl
theorem FRF_s {f : Nat → Int} {l1 l2 c q how i : Int} (h : -1 ≤ i) : FRF f l1 l2 c q how (i + 1 + 1).toNat = FRF f l1 l2 c q how (i + 1).toNat + DFF f l1 l2 c q how i := by
  have e : i = (((i + 1).toNat : Nat) : Int) - 1 := by omega
  rw [show (i + 1 + 1).toNat = (i + 1).toNat + 1 by omega]
  show FRF f l1 l2 c q how (i + 1).toNat + DFF f l1 l2 c q how ((((i + 1).toNat : Nat) : Int) - 1) = _
  rw [← e]
theorem FCR {f : Nat → Int} {l1 l2 c q how : Int} : FCL f l1 l2 c q how 5 = FRF f l1 l2 c q how 5 := by
  show 0 + DFF f l1 l2 c q how 0 + DFF f l1 l2 c q how 1 + DFF f l1 l2 c q how 2 + DFF f l1 l2 c q how 3 + DFF f l1 l2 c q how (-1) = 0 + DFF f l1 l2 c q how (-1) + DFF f l1 l2 c q how 0 + DFF f l1 l2 c q how 1 + DFF f l1 l2 c q how 2 + DFF f l1 l2 c q how 3
  omega
/-- the first question that is farthest, and how far: (-1, -1) with none -/
def NXB (g : Nat → Int) : Nat → Int × Int
  | 0 => (-1, -1)
  | n + 1 => if (NXB g n).2 < g n then ((n : Int), g n) else NXB g n
theorem NXB_y {g : Nat → Int} {i : Int} (h : 0 ≤ i) (c : (NXB g i.toNat).2 < g i.toNat) : (NXB g (i + 1).toNat).1 = i ∧ (NXB g (i + 1).toNat).2 = g i.toNat := by
  obtain ⟨n, rfl⟩ := Int.eq_ofNat_of_zero_le h
  have e : NXB g (n + 1) = if (NXB g n).2 < g n then ((n : Int), g n) else NXB g n := rfl
  rw [if_pos (show (NXB g n).2 < g n from c)] at e
  exact ⟨congrArg Prod.fst e, congrArg Prod.snd e⟩
theorem NXB_n {g : Nat → Int} {i : Int} (h : 0 ≤ i) (c : ¬ (NXB g i.toNat).2 < g i.toNat) : (NXB g (i + 1).toNat).1 = (NXB g i.toNat).1 ∧ (NXB g (i + 1).toNat).2 = (NXB g i.toNat).2 := by
  obtain ⟨n, rfl⟩ := Int.eq_ofNat_of_zero_le h
  have e : NXB g (n + 1) = if (NXB g n).2 < g n then ((n : Int), g n) else NXB g n := rfl
  rw [if_neg (show ¬ (NXB g n).2 < g n from c)] at e
  exact ⟨congrArg Prod.fst e, congrArg Prod.snd e⟩
/-- how far apart at question q -/
def FAR (f : Nat → Int) (l1 l2 c how : Int) (q : Nat) : Int := FRF f l1 l2 c (q : Int) how 5
