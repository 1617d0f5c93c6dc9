def bl_m : List Nat → Nat
  | [] => 0
  | a :: l => Nat.lor (Nat.pow 2 a) (bl_m l)
theorem bl_lor (x y i : Nat) : (Nat.lor x y).testBit i = (x.testBit i || y.testBit i) := Nat.testBit_or x y i
theorem bl_land (x y i : Nat) : (Nat.land x y).testBit i = (x.testBit i && y.testBit i) := Nat.testBit_and x y i
theorem bl_pow (a : Nat) : (Nat.pow 2 a).testBit a = true := Nat.testBit_two_pow_self
theorem bl_hd (a m : Nat) : (Nat.lor (Nat.pow 2 a) m).testBit a = true := by rw [bl_lor, bl_pow, Bool.true_or]
theorem bl_tl {a m k : Nat} (h : m.testBit k = true) : (Nat.lor (Nat.pow 2 a) m).testBit k = true := by rw [bl_lor, h, Bool.or_true]
theorem bl_in : ∀ {k : Nat} (l : List Nat), k ∈ l → (bl_m l).testBit k = true
  | _, [], z => nomatch z
  | _, _ :: _, .head _ => bl_hd _ _
  | _, _ :: l, .tail _ z => bl_tl (bl_in l z)
theorem bl_no {S : List Nat} {m k : Nat} (h : Nat.land (bl_m S) m = 0) (hk : m.testBit k = true) : k ∉ S := by
  intro z
  have e := bl_land (bl_m S) m k
  rw [h, bl_in S z, hk, Nat.zero_testBit] at e
  cases e
def wbM : List (Nat × Nat) → Nat
  | [] => 0
  | (c, _) :: l => Nat.lor (Nat.pow 2 c) (wbM l)
def wbA (d : Nat → Nat → Int) : List (Nat × Nat) → List Int → Prop
  | [], _ => True
  | _ :: _, [] => False
  | (c, s) :: l, x :: y => d c s = x ∧ wbA d l y
def wbG (d : Nat → Nat → Int) (G : Prop) : List (Nat × Nat) → List Int → Prop
  | [], _ => G
  | _ :: _, [] => G
  | [(c, s)], x :: _ => d c s = x → G
  | (c, s) :: a :: l, x :: y => d c s = x → wbG d G (a :: l) y
theorem wb_i {S : List Nat} {d1 d2 : Nat → Nat → Int} {G : Prop} (hF : Fr S d1 d2) {m : Nat} (hm : Nat.land (bl_m S) m = 0) : ∀ (l : List (Nat × Nat)) (y : List Int), (∀ k : Nat, (wbM l).testBit k = true → m.testBit k = true) → wbA d1 l y → wbG d2 G l y → G
  | [], _, _, _, g => g
  | _ :: _, [], _, ha, _ => False.elim ha
  | [(c, s)], _ :: _, hl, ha, g => g ((hF c (bl_no hm (hl c (bl_hd c _))) s).trans ha.1)
  | (c, s) :: a :: l, _ :: y, hl, ha, g => wb_i hF hm (a :: l) y (fun k hk => hl k (bl_tl hk)) ha.2 (g ((hF c (bl_no hm (hl c (bl_hd c _))) s).trans ha.1))
theorem wb_L {S : List Nat} {d1 d2 : Nat → Nat → Int} {G : Prop} (hF : Fr S d1 d2) (l : List (Nat × Nat)) (y : List Int) (hm : Nat.land (bl_m S) (wbM l) = 0) (ha : wbA d1 l y) (g : wbG d2 G l y) : G := wb_i hF hm l y (fun _ h => h) ha g
def kbA (d0 d1 : Nat → Nat → Int) : List Nat → Prop
  | [] => True
  | q :: l => (∀ j : Nat, d1 q j = d0 q j) ∧ kbA d0 d1 l
def kbG (d0 d2 : Nat → Nat → Int) (G : Prop) : List Nat → Prop
  | [] => G
  | [q] => (∀ j : Nat, d2 q j = d0 q j) → G
  | q :: a :: l => (∀ j : Nat, d2 q j = d0 q j) → kbG d0 d2 G (a :: l)
theorem kb_i {S : List Nat} {d0 d1 d2 : Nat → Nat → Int} {G : Prop} (hF : Fr S d1 d2) {m : Nat} (hm : Nat.land (bl_m S) m = 0) : ∀ (l : List Nat), (∀ k : Nat, (bl_m l).testBit k = true → m.testBit k = true) → kbA d0 d1 l → kbG d0 d2 G l → G
  | [], _, _, g => g
  | [q], hl, ha, g => g (fun j => (hF q (bl_no hm (hl q (bl_hd q _))) j).trans (ha.1 j))
  | q :: a :: l, hl, ha, g => kb_i hF hm (a :: l) (fun k hk => hl k (bl_tl hk)) ha.2 (g (fun j => (hF q (bl_no hm (hl q (bl_hd q _))) j).trans (ha.1 j)))
theorem kb_L {S : List Nat} {d1 d2 : Nat → Nat → Int} {G : Prop} (d0 : Nat → Nat → Int) (hF : Fr S d1 d2) (l : List Nat) (hm : Nat.land (bl_m S) (bl_m l) = 0) (ha : kbA d0 d1 l) (g : kbG d0 d2 G l) : G := kb_i hF hm l (fun _ h => h) ha g
theorem kbA_r {d : Nat → Nat → Int} : ∀ l : List Nat, kbA d d l
  | [] => True.intro
  | _ :: l => ⟨fun _ => rfl, kbA_r l⟩
