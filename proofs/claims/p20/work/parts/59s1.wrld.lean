/-! WORLDS: how it stands in a SCENE. W f j, f: 0 here, 1 screen, 2 worn, 3 place, 4 before, 5 first, 6 moves, 7 pictures, 8 held, 9 last, 10 put, 11 saw, 12 second -/
abbrev WD : Type := Nat → Nat → Int
/-- the class's (its cells from o on), the reference's -/
def LN (f : Nat) : Nat := [4, 4, 8, 3, 3, 3, 3, 6, 12, 12, 12, 12, 48].getD f 0
def VC (o : Nat) (D : Nat → Nat → Int) : WD := fun f j => if f < 13 ∧ j < LN f then D (o + f) j else 0
def SGR (f : Nat) : Nat := [88, 91, 89, 92, 94, 95, 93, 100, 96, 97, 98, 90, 99].getD f 0
def VR (D : Nat → Nat → Int) : WD := fun f j => if f < 13 ∧ j < LN f then D (SGR f) j else 0
theorem VC_r {o : Nat} {D : Nat → Nat → Int} {f j : Nat} (hf : f < 13) (hj : j < LN f) : VC o D f j = D (o + f) j := if_pos ⟨hf, hj⟩
theorem VR_r {D : Nat → Nat → Int} {f j : Nat} (hf : f < 13) (hj : j < LN f) : VR D f j = D (SGR f) j := if_pos ⟨hf, hj⟩
theorem VC_u2 {o : Nat} {D : Nat → Nat → Int} {f j : Nat} {x : Int} (hf : f < 13) (hj : j < LN f) : VC o (u2 D (o + f) j x) = u2 (VC o D) f j x := by
  funext a b
  unfold VC u2
  by_cases c : a = f ∧ b = j
  · rw [if_pos c, if_pos (show a < 13 ∧ b < LN a by rw [c.1, c.2]; exact ⟨hf, hj⟩), if_pos (show o + a = o + f ∧ b = j from ⟨by omega, c.2⟩)]
  · rw [if_neg c, if_neg (show ¬ (o + a = o + f ∧ b = j) from fun z => c ⟨by omega, z.2⟩)]
theorem SGR_inj : ∀ a b : Fin 13, SGR a.val = SGR b.val → a.val = b.val := by decide
theorem VR_u2 {D : Nat → Nat → Int} {f j : Nat} {x : Int} (hf : f < 13) (hj : j < LN f) : VR (u2 D (SGR f) j x) = u2 (VR D) f j x := by
  funext a b
  unfold VR u2
  by_cases c : a = f ∧ b = j
  · rw [if_pos c, if_pos (show a < 13 ∧ b < LN a by rw [c.1, c.2]; exact ⟨hf, hj⟩), if_pos (show SGR a = SGR f ∧ b = j from ⟨by rw [c.1], c.2⟩)]
  · rw [if_neg c]
    show (if a < 13 ∧ b < LN a then (if SGR a = SGR f ∧ b = j then x else D (SGR a) b) else 0) = (if a < 13 ∧ b < LN a then D (SGR a) b else 0)
    by_cases ha : a < 13 ∧ b < LN a
    · rw [if_pos ha, if_pos ha, if_neg (show ¬ (SGR a = SGR f ∧ b = j) from fun z => c ⟨SGR_inj ⟨a, ha.1⟩ ⟨f, hf⟩ z.1, z.2⟩)]
    · rw [if_neg ha, if_neg ha]
theorem VC_e {o f : Nat} {D D1 : Nat → Nat → Int} (h : ∀ j, D1 (o + f) j = D (o + f) j) : ∀ j, VC o D1 f j = VC o D f j := fun j => by unfold VC; rw [h j]
theorem VR_e {f : Nat} {D D1 : Nat → Nat → Int} (h : ∀ j, D1 (SGR f) j = D (SGR f) j) : ∀ j, VR D1 f j = VR D f j := fun j => by unfold VR; rw [h j]
theorem VC_fr {o : Nat} {D D1 : Nat → Nat → Int} (h : ∀ f, f < 13 → ∀ j, D1 (o + f) j = D (o + f) j) : VC o D1 = VC o D := by
  funext a b
  unfold VC
  by_cases ha : a < 13 ∧ b < LN a
  · rw [if_pos ha, if_pos ha]; exact h a ha.1 b
  · rw [if_neg ha, if_neg ha]
theorem VR_fr {D D1 : Nat → Nat → Int} (h : ∀ k, 88 ≤ k → k ≤ 100 → ∀ j, D1 k j = D k j) : VR D1 = VR D := by
  have key : ∀ a : Fin 13, 88 ≤ SGR a.val ∧ SGR a.val ≤ 100 := by decide
  funext a b
  unfold VR
  by_cases ha : a < 13 ∧ b < LN a
  · rw [if_pos ha, if_pos ha]; exact h _ (key ⟨a, ha.1⟩).1 (key ⟨a, ha.1⟩).2 b
  · rw [if_neg ha, if_neg ha]
theorem u2_cm {W : Nat → Nat → Int} {k j k' j' : Nat} {x y : Int} (h : ¬ (k = k' ∧ j = j')) : u2 (u2 W k j x) k' j' y = u2 (u2 W k' j' y) k j x := by
  funext a b
  unfold u2
  by_cases c : a = k' ∧ b = j'
  · rw [if_pos c]
    by_cases c2 : a = k ∧ b = j
    · exact absurd ⟨c2.1.symm.trans c.1, c2.2.symm.trans c.2⟩ h
    · rw [if_neg c2, if_pos c]
  · rw [if_neg c]
    by_cases c2 : a = k ∧ b = j
    · rw [if_pos c2, if_pos c2]
    · rw [if_neg c2, if_neg c2, if_neg c]
theorem u2_sm {W : Nat → Nat → Int} {k j j' : Nat} {x : Int} : u2 (u2 W k j x) k j' x = u2 (u2 W k j' x) k j x := by
  by_cases h : j = j'
  · rw [h]
  · exact u2_cm (fun z => h z.2)
/-- who can see; whom V takes for seeing -/
def wcan (W : WD) (v : Nat) : Bool := decide (W 0 v = 1 ∧ ¬ W 1 v = 0)
def wtak (W : WD) (v w : Nat) : Bool := decide (W 0 w = 1 ∧ (W 1 w = -1 ∨ (W 1 w = 1 ∧ W 2 (2 * v + 1) = 1)))
theorem wcan_e {W W' : WD} {v : Nat} (h0 : ∀ j, W' 0 j = W 0 j) (h1 : ∀ j, W' 1 j = W 1 j) : wcan W' v = wcan W v := by unfold wcan; simp only [h0, h1]
theorem wcan_t {W : WD} {v : Nat} (h0 : W 0 v = 1) (h1 : ¬ W 1 v = 0) : wcan W v = true := decide_eq_true ⟨h0, h1⟩
theorem wcan_f {W : WD} {v : Nat} (h : ¬ W 0 v = 1 ∨ W 1 v = 0) : wcan W v = false := decide_eq_false (fun z => h.elim (fun y => y z.1) (fun y => z.2 y))
theorem wtak_t {W : WD} {v w : Nat} (h0 : W 0 w = 1) (h : W 1 w = -1 ∨ (W 1 w = 1 ∧ W 2 (2 * v + 1) = 1)) : wtak W v w = true := decide_eq_true ⟨h0, h⟩
theorem wtak_f {W : WD} {v w : Nat} (h : ¬ W 0 w = 1 ∨ (¬ W 1 w = -1 ∧ (¬ W 1 w = 1 ∨ ¬ W 2 (2 * v + 1) = 1))) : wtak W v w = false := decide_eq_false (fun z => by omega)
/-- V sees that the mover m brings t to b: of w -/
def wse1 (W : WD) (v m t : Nat) (b : Int) (w : Nat) : WD := if ¬ w = v ∧ (w = m ∨ (wcan W v = true ∧ wtak W v w = true)) then u2 W 12 (12 * v + 3 * w + t) b else W
def wseL (W : WD) (v m t : Nat) (b : Int) : Nat → WD
  | 0 => W
  | k + 1 => wse1 (wseL W v m t b k) v m t b k
def wseB (W : WD) (v t : Nat) (b : Int) : WD := u2 (u2 W 8 (3 * v + t) b) 9 (3 * v + t) b
def wsee (W : WD) (v m t : Nat) (b : Int) : WD := wseL (wseB W v t b) v m t b 4
theorem wseL_y {W W1 W2 : WD} {v m t i : Nat} {b l : Int} (h : W1 = wseL W v m t b l.toNat) (h0 : 0 ≤ l) (c1 : ¬ l.toNat = v) (c2 : l.toNat = m ∨ (wcan W1 v = true ∧ wtak W1 v l.toNat = true)) (e : W2 = u2 W1 12 i b) (hi : i = 12 * v + 3 * l.toNat + t) : W2 = wseL W v m t b (l + 1).toNat := by
  rw [show (l + 1).toNat = l.toNat + 1 by omega]
  show W2 = wse1 (wseL W v m t b l.toNat) v m t b l.toNat
  rw [← h]; unfold wse1; rw [if_pos ⟨c1, c2⟩, e, hi]
theorem wseL_n {W W1 W2 : WD} {v m t : Nat} {b l : Int} (h : W1 = wseL W v m t b l.toNat) (h0 : 0 ≤ l) (c : l.toNat = v ∨ (¬ l.toNat = m ∧ (wcan W1 v = false ∨ wtak W1 v l.toNat = false))) (e : W2 = W1) : W2 = wseL W v m t b (l + 1).toNat := by
  rw [show (l + 1).toNat = l.toNat + 1 by omega]
  show W2 = wse1 (wseL W v m t b l.toNat) v m t b l.toNat
  rw [← h]; unfold wse1; rw [if_neg ?_, e]
  intro z
  rcases c with c | ⟨c, d | d⟩
  · exact z.1 c
  · rcases z.2 with y | y
    · exact c y
    · rw [d] at y; exact absurd y.1 (by decide)
  · rcases z.2 with y | y
    · exact c y
    · rw [d] at y; exact absurd y.2 (by decide)
theorem wseL_e {W W1 : WD} {v m t : Nat} {b l : Int} (h : W1 = wseL (wseB W v t b) v m t b l.toNat) (hl : l = 4) : W1 = wsee W v m t b := by subst hl; exact h
theorem wseL_lo {W : WD} {v m t : Nat} {b : Int} {f j : Nat} (hf : f < 12) : ∀ k, wseL W v m t b k f j = W f j
  | 0 => rfl
  | k + 1 => by
    show wse1 (wseL W v m t b k) v m t b k f j = W f j
    unfold wse1
    split
    · rw [u2_ne (by omega)]; exact wseL_lo hf k
    · exact wseL_lo hf k
theorem wsee_lo {W : WD} {v m t : Nat} {b : Int} {f j : Nat} (hf : f < 8 ∨ f = 10 ∨ f = 11) : wsee W v m t b f j = W f j := by
  unfold wsee
  rw [wseL_lo (by omega)]
  unfold wseB
  rw [u2_ne (by omega), u2_ne (by omega)]
/-- W x brings t to b -/
def wbr1 (W : WD) (x t : Nat) (b : Int) (v : Nat) : WD := if v = x ∨ wcan W v = true then wsee (u2 W 11 (3 * v + t) 1) v x t b else u2 W 11 (3 * v + t) 0
def wbrL (W : WD) (x t : Nat) (b : Int) : Nat → WD
  | 0 => W
  | k + 1 => wbr1 (wbrL W x t b k) x t b k
def wbrS (W : WD) (x t : Nat) (b : Int) : WD := u2 (u2 (u2 (u2 (if W 3 t = -1 then u2 W 5 t b else W) 4 t (W 3 t)) 3 t b) 6 t (W 6 t + 1)) 10 (3 * x + t) b
def wmv (W : WD) (x t : Nat) (b : Int) : WD := if W 0 x = 1 then wbrL (wbrS W x t b) x t b 4 else W
theorem wbrL_y {W W1 W2 : WD} {x t i : Nat} {b l : Int} (h : W1 = wbrL W x t b l.toNat) (h0 : 0 ≤ l) (c : l.toNat = x ∨ wcan W1 l.toNat = true) (e : W2 = wsee (u2 W1 11 i 1) l.toNat x t b) (hi : i = 3 * l.toNat + t) : W2 = wbrL W x t b (l + 1).toNat := by
  rw [show (l + 1).toNat = l.toNat + 1 by omega]
  show W2 = wbr1 (wbrL W x t b l.toNat) x t b l.toNat
  rw [← h]; unfold wbr1; rw [if_pos c, e, hi]
theorem wbrL_n {W W1 W2 : WD} {x t i : Nat} {b l : Int} (h : W1 = wbrL W x t b l.toNat) (h0 : 0 ≤ l) (c : ¬ l.toNat = x) (c2 : wcan W1 l.toNat = false) (e : W2 = u2 W1 11 i 0) (hi : i = 3 * l.toNat + t) : W2 = wbrL W x t b (l + 1).toNat := by
  rw [show (l + 1).toNat = l.toNat + 1 by omega]
  show W2 = wbr1 (wbrL W x t b l.toNat) x t b l.toNat
  rw [← h]; unfold wbr1; rw [if_neg (fun z => z.elim c (fun y => by rw [c2] at y; cases y)), e, hi]
theorem wmv_e {W W1 : WD} {x t : Nat} {b l : Int} (h : W1 = wbrL (wbrS W x t b) x t b l.toNat) (hl : l = 4) (hx : W 0 x = 1) : W1 = wmv W x t b := by subst hl; unfold wmv; rw [if_pos hx]; exact h
theorem wmv_n {W W1 : WD} {x t : Nat} {b : Int} (hx : ¬ W 0 x = 1) (e : W1 = W) : W1 = wmv W x t b := by unfold wmv; rw [if_neg hx]; exact e
theorem wbrL_lo {W : WD} {x t : Nat} {b : Int} {f j : Nat} (hf : f < 8 ∨ f = 10) : ∀ k, wbrL W x t b k f j = W f j
  | 0 => rfl
  | k + 1 => by
    show wbr1 (wbrL W x t b k) x t b k f j = W f j
    unfold wbr1
    split
    · rw [wsee_lo (by omega), u2_ne (by omega)]; exact wbrL_lo hf k
    · rw [u2_ne (by omega)]; exact wbrL_lo hf k
/-- the reference's way there: ahead, box, moves, first, puts -/
theorem wbrS_r1 {W W1 : WD} {x t i : Nat} {b y z : Int} (h : W 3 t = -1) (e : W1 = u2 (u2 (u2 (u2 (u2 W 4 t z) 3 t b) 6 t y) 5 t b) 10 i b) (hz : z = W 3 t) (hy : y = W 6 t + 1) (hi : i = 3 * x + t) : W1 = wbrS W x t b := by
  subst hi; subst hy; subst hz
  unfold wbrS
  rw [if_pos h, e]
  congr 1
  rw [u2_cm (k := 6) (k' := 5) (by omega), u2_cm (k := 3) (k' := 5) (by omega), u2_cm (k := 4) (k' := 5) (by omega)]
theorem wbrS_r2 {W W1 : WD} {x t i : Nat} {b y z : Int} (h : ¬ W 3 t = -1) (e : W1 = u2 (u2 (u2 (u2 W 4 t z) 3 t b) 6 t y) 10 i b) (hz : z = W 3 t) (hy : y = W 6 t + 1) (hi : i = 3 * x + t) : W1 = wbrS W x t b := by
  subst hi; subst hy; subst hz
  unfold wbrS
  rw [if_neg h, e]
/-- tell -/
def wtl1 (W : WD) (v t : Nat) (b : Int) (o : Nat) : WD := if ¬ o = v ∧ W 0 o = 1 then u2 W 12 (12 * o + 3 * v + t) b else W
def wtlL (W : WD) (v t : Nat) (b : Int) : Nat → WD
  | 0 => W
  | k + 1 => wtl1 (wtlL W v t b k) v t b k
def wtlB (W : WD) (x v t : Nat) (b : Int) : WD := u2 (u2 W 8 (3 * v + t) b) 12 (12 * v + 3 * x + t) b
def wtell (W : WD) (x v t : Nat) (b : Int) : WD := if W 0 x = 1 ∧ W 0 v = 1 then wtlL (wtlB W x v t b) v t b 4 else W
theorem wtlL_y {W W1 W2 : WD} {v t i : Nat} {b l : Int} (h : W1 = wtlL W v t b l.toNat) (h0 : 0 ≤ l) (c1 : ¬ l.toNat = v) (c2 : W1 0 l.toNat = 1) (e : W2 = u2 W1 12 i b) (hi : i = 12 * l.toNat + 3 * v + t) : W2 = wtlL W v t b (l + 1).toNat := by
  rw [show (l + 1).toNat = l.toNat + 1 by omega]
  show W2 = wtl1 (wtlL W v t b l.toNat) v t b l.toNat
  rw [← h]; unfold wtl1; rw [if_pos ⟨c1, c2⟩, e, hi]
theorem wtlL_n {W W1 W2 : WD} {v t : Nat} {b l : Int} (h : W1 = wtlL W v t b l.toNat) (h0 : 0 ≤ l) (c : l.toNat = v ∨ ¬ W1 0 l.toNat = 1) (e : W2 = W1) : W2 = wtlL W v t b (l + 1).toNat := by
  rw [show (l + 1).toNat = l.toNat + 1 by omega]
  show W2 = wtl1 (wtlL W v t b l.toNat) v t b l.toNat
  rw [← h]; unfold wtl1; rw [if_neg (fun z => c.elim z.1 (fun y => y z.2)), e]
theorem wtell_e {W W1 : WD} {x v t : Nat} {b l : Int} (h : W1 = wtlL (wtlB W x v t b) v t b l.toNat) (hl : l = 4) (hx : W 0 x = 1) (hv : W 0 v = 1) : W1 = wtell W x v t b := by subst hl; unfold wtell; rw [if_pos ⟨hx, hv⟩]; exact h
theorem wtell_n {W W1 : WD} {x v t : Nat} {b : Int} (h : ¬ W 0 x = 1 ∨ ¬ W 0 v = 1) (e : W1 = W) : W1 = wtell W x v t b := by unfold wtell; rw [if_neg (fun z => h.elim (fun y => y z.1) (fun y => y z.2))]; exact e
theorem wtlL_c {W : WD} {v t i : Nat} {b : Int} : ∀ k, wtlL (u2 W 12 i b) v t b k = u2 (wtlL W v t b k) 12 i b
  | 0 => rfl
  | k + 1 => by
    show wtl1 (wtlL (u2 W 12 i b) v t b k) v t b k = u2 (wtl1 (wtlL W v t b k) v t b k) 12 i b
    rw [wtlL_c k]
    unfold wtl1
    have e : u2 (wtlL W v t b k) 12 i b 0 k = wtlL W v t b k 0 k := u2_ne (by omega)
    rw [e]
    by_cases c : ¬ k = v ∧ wtlL W v t b k 0 k = 1
    · rw [if_pos c, if_pos c]; exact u2_sm
    · rw [if_neg c, if_neg c]
/-- the reference's way: its own last -/
theorem wtell_r {W W1 W2 : WD} {x v t i : Nat} {b l : Int} (h : W1 = wtlL (u2 W 8 (3 * v + t) b) v t b l.toNat) (hl : l = 4) (hx : W 0 x = 1) (hv : W 0 v = 1) (e : W2 = u2 W1 12 i b) (hi : i = 12 * v + 3 * x + t) : W2 = wtell W x v t b := by
  subst hl
  unfold wtell wtlB
  rw [if_pos ⟨hx, hv⟩, wtlL_c, e, h, hi]
  rfl
/-- lift: what each number comes to -/
def wlf (W : WD) (x : Nat) (b : Int) : WD := fun f j =>
  if f = 8 ∧ j < 12 ∧ j / 3 = x then (if W 3 (j % 3) = b then b else if W 8 j = b then -1 else W 8 j)
  else if f = 9 ∧ j < 12 ∧ j / 3 = x ∧ W 3 (j % 3) = b then b
  else if f = 11 ∧ j < 12 ∧ j / 3 = x ∧ W 3 (j % 3) = b then 1
  else if f = 12 ∧ j < 48 ∧ j / 3 % 4 = x ∧ ¬ j / 12 = x ∧ wcan W (j / 12) = true then (if W 8 (3 * (j / 12) + j % 3) = b then b else if W 12 j = b then -1 else W 12 j)
  else W f j
def wlift (W : WD) (x : Nat) (b : Int) : WD := if wcan W x = true then wlf W x b else W
def LRV (x f j : Nat) : Prop := ((f = 8 ∨ f = 9 ∨ f = 11) ∧ j < 12 ∧ j / 3 = x) ∨ (f = 12 ∧ j < 48 ∧ j / 3 % 4 = x ∧ ¬ j / 12 = x)
theorem wlf_no {W : WD} {x : Nat} {b : Int} {f j : Nat} (h : ¬ LRV x f j) : wlf W x b f j = W f j := by
  unfold LRV at h
  unfold wlf
  rw [if_neg (by omega), if_neg (fun z => h (.inl ⟨.inr (.inl z.1), z.2.1, z.2.2.1⟩)), if_neg (fun z => h (.inl ⟨.inr (.inr z.1), z.2.1, z.2.2.1⟩)), if_neg (fun z => h (.inr ⟨z.1, z.2.1, z.2.2.1, z.2.2.2.1⟩))]
/-- so far: P says which numbers are done -/
def LF (W : WD) (x : Nat) (b : Int) (W1 : WD) (P : Nat → Nat → Prop) : Prop := (∀ f j, P f j → W1 f j = wlf W x b f j) ∧ ∀ f j, ¬ P f j → W1 f j = W f j
theorem LF_ir {W W1 : WD} {x : Nat} {b : Int} {P : Nat → Nat → Prop} (h : LF W x b W1 P) {f j : Nat} (hr : ¬ LRV x f j) : W1 f j = W f j := by
  by_cases c : P f j
  · rw [h.1 f j c]; exact wlf_no hr
  · exact h.2 f j c
theorem LF_p {W W1 : WD} {x : Nat} {b : Int} {P Q : Nat → Nat → Prop} (h : LF W x b W1 P) (hp : ∀ f j, LRV x f j → (P f j ↔ Q f j)) : LF W x b W1 Q := by
  refine ⟨fun f j q => ?_, fun f j q => ?_⟩
  · by_cases c : LRV x f j
    · exact h.1 f j ((hp f j c).mpr q)
    · rw [LF_ir h c, wlf_no c]
  · by_cases c : LRV x f j
    · exact h.2 f j (fun z => q ((hp f j c).mp z))
    · exact LF_ir h c
theorem LF_0 {W : WD} {x : Nat} {b : Int} {P : Nat → Nat → Prop} (h : ∀ f j, LRV x f j → ¬ P f j) : LF W x b W P :=
  LF_p (P := fun _ _ => False) ⟨fun _ _ z => z.elim, fun _ _ _ => rfl⟩ (fun f j c => ⟨fun z => z.elim, fun z => (h f j c z).elim⟩)
theorem LF_end {W W1 : WD} {x : Nat} {b : Int} {P : Nat → Nat → Prop} (h : LF W x b W1 P) (hp : ∀ f j, LRV x f j → P f j) (hc : wcan W x = true) : W1 = wlift W x b := by
  unfold wlift
  rw [if_pos hc]
  funext f j
  by_cases c : LRV x f j
  · exact h.1 f j (hp f j c)
  · rw [LF_ir h c, wlf_no c]
theorem wlift_n {W W1 : WD} {x : Nat} {b : Int} (h : wcan W x = false) (e : W1 = W) : W1 = wlift W x b := by unfold wlift; rw [if_neg (by rw [h]; decide)]; exact e
theorem LF_can {W W1 : WD} {x v : Nat} {b : Int} {P : Nat → Nat → Prop} (h : LF W x b W1 P) : wcan W1 v = wcan W v :=
  wcan_e (fun j => LF_ir h (by unfold LRV; omega)) (fun j => LF_ir h (by unfold LRV; omega))
/-- of the one who lifts -/
def wow (W : WD) (x t : Nat) (b : Int) : WD := if W 3 t = b then u2 (u2 (u2 W 8 (3 * x + t) b) 9 (3 * x + t) b) 11 (3 * x + t) 1 else if W 8 (3 * x + t) = b then u2 W 8 (3 * x + t) (-1) else W
/-- of one who watches -/
def wwl (W : WD) (v x t : Nat) (b : Int) : WD := if W 8 (3 * v + t) = b then u2 W 12 (12 * v + 3 * x + t) b else if W 12 (12 * v + 3 * x + t) = b then u2 W 12 (12 * v + 3 * x + t) (-1) else W
def POW (P : Nat → Nat → Prop) (x t : Nat) : Nat → Nat → Prop := fun f j => P f j ∨ ((f = 8 ∨ f = 9 ∨ f = 11) ∧ j = 3 * x + t)
def PWL (P : Nat → Nat → Prop) (v x t : Nat) : Nat → Nat → Prop := fun f j => P f j ∨ (f = 12 ∧ j = 12 * v + 3 * x + t)
theorem wlf_8 {W : WD} {x t : Nat} {b : Int} (hx : x < 4) (ht : t < 3) : wlf W x b 8 (3 * x + t) = (if W 3 t = b then b else if W 8 (3 * x + t) = b then -1 else W 8 (3 * x + t)) := by
  unfold wlf
  rw [if_pos (by omega), show (3 * x + t) % 3 = t by omega]
theorem wlf_9 {W : WD} {x t : Nat} {b : Int} (hx : x < 4) (ht : t < 3) : wlf W x b 9 (3 * x + t) = if W 3 t = b then b else W 9 (3 * x + t) := by
  unfold wlf
  rw [if_neg (by omega), show (3 * x + t) % 3 = t by omega]
  by_cases c : W 3 t = b
  · rw [if_pos c, if_pos ⟨rfl, by omega, by omega, c⟩]
  · rw [if_neg c, if_neg (fun z => c z.2.2.2), if_neg (by omega), if_neg (by omega)]
theorem wlf_11 {W : WD} {x t : Nat} {b : Int} (hx : x < 4) (ht : t < 3) : wlf W x b 11 (3 * x + t) = if W 3 t = b then 1 else W 11 (3 * x + t) := by
  unfold wlf
  rw [if_neg (by omega), if_neg (by omega), show (3 * x + t) % 3 = t by omega]
  by_cases c : W 3 t = b
  · rw [if_pos c, if_pos ⟨rfl, by omega, by omega, c⟩]
  · rw [if_neg c, if_neg (fun z => c z.2.2.2), if_neg (by omega)]
theorem wlf_12 {W : WD} {v x t : Nat} {b : Int} (hv : v < 4) (hx : x < 4) (ht : t < 3) (hn : ¬ v = x) : wlf W x b 12 (12 * v + 3 * x + t) = if wcan W v = true then (if W 8 (3 * v + t) = b then b else if W 12 (12 * v + 3 * x + t) = b then -1 else W 12 (12 * v + 3 * x + t)) else W 12 (12 * v + 3 * x + t) := by
  unfold wlf
  rw [if_neg (by omega), if_neg (by omega), if_neg (by omega), show (12 * v + 3 * x + t) / 12 = v by omega, show (12 * v + 3 * x + t) % 3 = t by omega]
  by_cases c : wcan W v = true
  · rw [if_pos c, if_pos ⟨rfl, by omega, by omega, hn, c⟩]
  · rw [if_neg c, if_neg (fun z => c z.2.2.2.2)]
theorem LF_ow {W W1 W2 : WD} {x t : Nat} {b : Int} {P : Nat → Nat → Prop} (h : LF W x b W1 P) (hx : x < 4) (ht : t < 3) (hp : ¬ P 8 (3 * x + t) ∧ ¬ P 9 (3 * x + t) ∧ ¬ P 11 (3 * x + t)) (e : W2 = wow W1 x t b) : LF W x b W2 (POW P x t) := by
  have e3 : W1 3 t = W 3 t := LF_ir h (by unfold LRV; omega)
  have e8 := h.2 _ _ hp.1
  have e9 := h.2 _ _ hp.2.1
  have e11 := h.2 _ _ hp.2.2
  have w8 : W2 8 (3 * x + t) = wlf W x b 8 (3 * x + t) := by
    rw [wlf_8 hx ht, e]; unfold wow; rw [e3, e8]
    by_cases c : W 3 t = b
    · rw [if_pos c, if_pos c, u2_ne (by omega), u2_ne (by omega), u2_eq]
    · rw [if_neg c, if_neg c]
      by_cases c2 : W 8 (3 * x + t) = b
      · rw [if_pos c2, if_pos c2, u2_eq]
      · rw [if_neg c2, if_neg c2]; exact e8
  have w9 : W2 9 (3 * x + t) = wlf W x b 9 (3 * x + t) := by
    rw [wlf_9 hx ht, e]; unfold wow; rw [e3, e8]
    by_cases c : W 3 t = b
    · rw [if_pos c, if_pos c, u2_ne (by omega), u2_eq]
    · rw [if_neg c, if_neg c]
      by_cases c2 : W 8 (3 * x + t) = b
      · rw [if_pos c2, u2_ne (by omega)]; exact e9
      · rw [if_neg c2]; exact e9
  have w11 : W2 11 (3 * x + t) = wlf W x b 11 (3 * x + t) := by
    rw [wlf_11 hx ht, e]; unfold wow; rw [e3, e8]
    by_cases c : W 3 t = b
    · rw [if_pos c, if_pos c, u2_eq]
    · rw [if_neg c, if_neg c]
      by_cases c2 : W 8 (3 * x + t) = b
      · rw [if_pos c2, u2_ne (by omega)]; exact e11
      · rw [if_neg c2]; exact e11
  have wo : ∀ f j, ¬ ((f = 8 ∨ f = 9 ∨ f = 11) ∧ j = 3 * x + t) → W2 f j = W1 f j := fun f j z => by
    rw [e]; unfold wow
    split
    · rw [u2_ne (by omega), u2_ne (by omega), u2_ne (by omega)]
    · split
      · rw [u2_ne (by omega)]
      · rfl
  refine ⟨fun f j q => ?_, fun f j q => ?_⟩
  · by_cases c : (f = 8 ∨ f = 9 ∨ f = 11) ∧ j = 3 * x + t
    · obtain ⟨c1 | c1 | c1, c2⟩ := c
      · subst c1; subst c2; exact w8
      · subst c1; subst c2; exact w9
      · subst c1; subst c2; exact w11
    · rw [wo f j c]
      rcases q with q | q
      · exact h.1 f j q
      · exact absurd q c
  · rw [wo f j (fun z => q (.inr z))]
    exact h.2 f j (fun z => q (.inl z))
theorem LF_wl {W W1 W2 : WD} {v x t : Nat} {b : Int} {P : Nat → Nat → Prop} (h : LF W x b W1 P) (hv : v < 4) (hx : x < 4) (ht : t < 3) (hn : ¬ v = x) (hc : wcan W v = true) (hp : ¬ P 12 (12 * v + 3 * x + t)) (e : W2 = wwl W1 v x t b) : LF W x b W2 (PWL P v x t) := by
  have e8 : W1 8 (3 * v + t) = W 8 (3 * v + t) := LF_ir h (by unfold LRV; omega)
  have e12 := h.2 _ _ hp
  have w12 : W2 12 (12 * v + 3 * x + t) = wlf W x b 12 (12 * v + 3 * x + t) := by
    rw [wlf_12 hv hx ht hn, if_pos hc, e]; unfold wwl; rw [e8, e12]
    by_cases c : W 8 (3 * v + t) = b
    · rw [if_pos c, if_pos c, u2_eq]
    · rw [if_neg c, if_neg c]
      by_cases c2 : W 12 (12 * v + 3 * x + t) = b
      · rw [if_pos c2, if_pos c2, u2_eq]
      · rw [if_neg c2, if_neg c2]; exact e12
  have wo : ∀ f j, ¬ (f = 12 ∧ j = 12 * v + 3 * x + t) → W2 f j = W1 f j := fun f j z => by
    rw [e]; unfold wwl
    split
    · rw [u2_ne (by omega)]
    · split
      · rw [u2_ne (by omega)]
      · rfl
  refine ⟨fun f j q => ?_, fun f j q => ?_⟩
  · by_cases c : f = 12 ∧ j = 12 * v + 3 * x + t
    · obtain ⟨c1, c2⟩ := c
      subst c1; subst c2; exact w12
    · rw [wo f j c]
      rcases q with q | q
      · exact h.1 f j q
      · exact absurd q c
  · rw [wo f j (fun z => q (.inr z))]
    exact h.2 f j (fun z => q (.inl z))
/-- one who does not see, or lifts himself: nothing is to be done of him -/
theorem LF_sk {W W1 : WD} {v x t : Nat} {b : Int} {P : Nat → Nat → Prop} (h : LF W x b W1 P) (hv : v < 4) (hx : x < 4) (ht : t < 3) (hc : v = x ∨ wcan W v = false) (hp : ¬ P 12 (12 * v + 3 * x + t)) : LF W x b W1 (PWL P v x t) := by
  refine ⟨fun f j q => ?_, fun f j q => h.2 f j (fun z => q (.inl z))⟩
  rcases q with q | ⟨q1, q2⟩
  · exact h.1 f j q
  · subst q1; subst q2
    by_cases c : v = x
    · rw [h.2 _ _ hp]; exact (wlf_no (by unfold LRV; omega)).symm
    · rw [wlf_12 hv hx ht c, if_neg (by rw [hc.resolve_left c]; decide)]; exact h.2 _ _ hp
/-- which are done: the class's order, the reference's -/
def PC1 (l : Nat) : Nat → Nat → Prop := fun _ j => j % 3 < l
def PC2 (l m : Nat) : Nat → Nat → Prop := fun f j => j % 3 < l ∨ (j % 3 = l ∧ (f = 12 → j / 12 < m))
def PR1 (l : Nat) : Nat → Nat → Prop := fun f j => ¬ f = 12 ∧ j % 3 < l
def PR2 (l : Nat) : Nat → Nat → Prop := fun f j => f = 12 → j / 12 < l
def PR3 (l m : Nat) : Nat → Nat → Prop := fun f j => f = 12 → (j / 12 < l ∨ (j / 12 = l ∧ j % 3 < m))
theorem LFc_0 {W : WD} {x : Nat} {b : Int} : LF W x b W (PC1 0) := LF_0 (fun f j _ z => by unfold PC1 at z; omega)
theorem LFc_o {W W1 W2 : WD} {x : Nat} {b l : Int} (h : LF W x b W1 (PC1 l.toNat)) (hx : x < 4) (hl : 0 ≤ l ∧ l < 3) (e : W2 = wow W1 x l.toNat b) : LF W x b W2 (PC2 l.toNat (0 : Int).toNat) := by
  refine LF_p (LF_ow h hx (by omega) (by unfold PC1; omega) e) (fun f j r => ?_)
  unfold LRV at r; unfold POW PC1 PC2
  rw [show (0 : Int).toNat = 0 from rfl]
  omega
theorem LFc_w {W W1 W2 : WD} {x : Nat} {b l m : Int} (h : LF W x b W1 (PC2 l.toNat m.toNat)) (hx : x < 4) (hl : 0 ≤ l ∧ l < 3) (hm : 0 ≤ m ∧ m < 4) (hn : ¬ m.toNat = x) (hc : wcan W1 m.toNat = true) (e : W2 = wwl W1 m.toNat x l.toNat b) : LF W x b W2 (PC2 l.toNat (m + 1).toNat) := by
  refine LF_p (LF_wl h (by omega) hx (by omega) hn (by rw [← LF_can h]; exact hc) (by unfold PC2; omega) e) (fun f j r => ?_)
  unfold LRV at r; unfold PWL PC2
  omega
theorem LFc_s {W W1 W2 : WD} {x : Nat} {b l m : Int} (h : LF W x b W1 (PC2 l.toNat m.toNat)) (hx : x < 4) (hl : 0 ≤ l ∧ l < 3) (hm : 0 ≤ m ∧ m < 4) (hc : m.toNat = x ∨ wcan W1 m.toNat = false) (e : W2 = W1) : LF W x b W2 (PC2 l.toNat (m + 1).toNat) := by
  subst e
  refine LF_p (LF_sk (v := m.toNat) (t := l.toNat) h (by omega) hx (by omega) (by rw [← LF_can h]; exact hc) (by unfold PC2; omega)) (fun f j r => ?_)
  unfold LRV at r; unfold PWL PC2
  omega
theorem LFc_n {W W1 : WD} {x : Nat} {b l m : Int} (h : LF W x b W1 (PC2 l.toNat m.toNat)) (hl : 0 ≤ l) (hm : m = 4) : LF W x b W1 (PC1 (l + 1).toNat) := by
  refine LF_p h (fun f j r => ?_)
  unfold LRV at r; unfold PC1 PC2
  omega
theorem LFc_e {W W1 : WD} {x : Nat} {b l : Int} (h : LF W x b W1 (PC1 l.toNat)) (hl : l = 3) (hc : wcan W x = true) : W1 = wlift W x b := LF_end h (fun f j _ => by unfold PC1; omega) hc
theorem LFr_0 {W : WD} {x : Nat} {b : Int} : LF W x b W (PR1 0) := LF_0 (fun f j _ z => by unfold PR1 at z; omega)
theorem LFr_o {W W1 W2 : WD} {x : Nat} {b l : Int} (h : LF W x b W1 (PR1 l.toNat)) (hx : x < 4) (hl : 0 ≤ l ∧ l < 3) (e : W2 = wow W1 x l.toNat b) : LF W x b W2 (PR1 (l + 1).toNat) := by
  refine LF_p (LF_ow h hx (by omega) (by unfold PR1; omega) e) (fun f j r => ?_)
  unfold LRV at r; unfold POW PR1
  omega
theorem LFr_1 {W W1 : WD} {x : Nat} {b l : Int} (h : LF W x b W1 (PR1 l.toNat)) (hl : l = 3) : LF W x b W1 (PR2 0) := by
  refine LF_p h (fun f j r => ?_)
  unfold LRV at r; unfold PR1 PR2
  omega
theorem LFr_2 {W W1 : WD} {x : Nat} {b l : Int} (h : LF W x b W1 (PR2 l.toNat)) (hl : 0 ≤ l) : LF W x b W1 (PR3 l.toNat (0 : Int).toNat) := by
  refine LF_p h (fun f j r => ?_)
  unfold LRV at r; unfold PR2 PR3
  rw [show (0 : Int).toNat = 0 from rfl]
  omega
theorem LFr_w {W W1 W2 : WD} {x : Nat} {b l m : Int} (h : LF W x b W1 (PR3 l.toNat m.toNat)) (hx : x < 4) (hl : 0 ≤ l ∧ l < 4) (hm : 0 ≤ m ∧ m < 3) (hn : ¬ l.toNat = x) (hc : wcan W l.toNat = true) (e : W2 = wwl W1 l.toNat x m.toNat b) : LF W x b W2 (PR3 l.toNat (m + 1).toNat) := by
  refine LF_p (LF_wl h (by omega) hx (by omega) hn hc (by unfold PR3; omega) e) (fun f j r => ?_)
  unfold LRV at r; unfold PWL PR3
  omega
theorem LFr_n {W W1 : WD} {x : Nat} {b l m : Int} (h : LF W x b W1 (PR3 l.toNat m.toNat)) (hl : 0 ≤ l) (hm : m = 3) : LF W x b W1 (PR2 (l + 1).toNat) := by
  refine LF_p h (fun f j r => ?_)
  unfold LRV at r; unfold PR2 PR3
  omega
/-- whom is passed over -/
theorem LFr_s {W W1 W2 : WD} {x : Nat} {b l : Int} (h : LF W x b W1 (PR2 l.toNat)) (hx : x < 4) (hl : 0 ≤ l ∧ l < 4) (hc : l.toNat = x ∨ wcan W1 l.toNat = false) (e : W2 = W1) : LF W x b W2 (PR2 (l + 1).toNat) := by
  subst e
  have k : ∀ (t : Nat) (P : Nat → Nat → Prop), t < 3 → ¬ P 12 (12 * l.toNat + 3 * x + t) → LF W x b W2 P → LF W x b W2 (PWL P l.toNat x t) := fun t P ht hp y => LF_sk y (by omega) hx ht (by rw [← LF_can h]; exact hc) hp
  have k0 := k 0 _ (by decide) (by unfold PR2; omega) h
  have k1 := k 1 _ (by decide) (by unfold PWL PR2; omega) k0
  have k2 := k 2 _ (by decide) (by unfold PWL PR2; omega) k1
  refine LF_p k2 (fun f j r => ?_)
  unfold LRV at r; unfold PWL PR2
  omega
theorem LFr_e {W W1 : WD} {x : Nat} {b l : Int} (h : LF W x b W1 (PR2 l.toNat)) (hl : l = 4) (hc : wcan W x = true) : W1 = wlift W x b := LF_end h (fun f j r => by unfold LRV at r; unfold PR2; omega) hc
theorem wow_1 {W W2 : WD} {x t i : Nat} {b : Int} (c : W 3 t = b) (e : W2 = u2 (u2 (u2 W 8 i b) 9 i b) 11 i 1) (hi : i = 3 * x + t) : W2 = wow W x t b := by subst hi; unfold wow; rw [if_pos c, e]
theorem wow_2 {W W2 : WD} {x t i : Nat} {b : Int} (c : ¬ W 3 t = b) (c2 : W 8 i = b) (e : W2 = u2 W 8 i (-1)) (hi : i = 3 * x + t) : W2 = wow W x t b := by subst hi; unfold wow; rw [if_neg c, if_pos c2, e]
theorem wow_3 {W W2 : WD} {x t i : Nat} {b : Int} (c : ¬ W 3 t = b) (c2 : ¬ W 8 i = b) (e : W2 = W) (hi : i = 3 * x + t) : W2 = wow W x t b := by subst hi; unfold wow; rw [if_neg c, if_neg c2, e]
theorem wwl_1 {W W2 : WD} {v x t i k : Nat} {b : Int} (c : W 8 k = b) (hk : k = 3 * v + t) (e : W2 = u2 W 12 i b) (hi : i = 12 * v + 3 * x + t) : W2 = wwl W v x t b := by subst hi; subst hk; unfold wwl; rw [if_pos c, e]
theorem wwl_2 {W W2 : WD} {v x t i k : Nat} {b : Int} (c : ¬ W 8 k = b) (hk : k = 3 * v + t) (c2 : W 12 i = b) (e : W2 = u2 W 12 i (-1)) (hi : i = 12 * v + 3 * x + t) : W2 = wwl W v x t b := by subst hi; subst hk; unfold wwl; rw [if_neg c, if_pos c2, e]
theorem wwl_3 {W W2 : WD} {v x t i k : Nat} {b : Int} (c : ¬ W 8 k = b) (hk : k = 3 * v + t) (c2 : ¬ W 12 i = b) (e : W2 = W) (hi : i = 12 * v + 3 * x + t) : W2 = wwl W v x t b := by subst hi; subst hk; unfold wwl; rw [if_neg c, if_neg c2, e]
/-- snap -/
def wsn (W : WD) (p : Nat) : Nat → WD
  | 0 => W
  | k + 1 => u2 (wsn W p k) 7 (3 * p + k) (W 3 k)
theorem wsn_s {W W1 W2 : WD} {p i : Nat} {l x : Int} (h : W1 = wsn W p l.toNat) (h0 : 0 ≤ l) (e : W2 = u2 W1 7 i x) (hi : i = 3 * p + l.toNat) (hx : x = W 3 l.toNat) : W2 = wsn W p (l + 1).toNat := by
  rw [show (l + 1).toNat = l.toNat + 1 by omega]
  show W2 = u2 (wsn W p l.toNat) 7 (3 * p + l.toNat) (W 3 l.toNat)
  rw [← h, e, hi, hx]
theorem wsn_e {W W1 : WD} {p : Nat} {l : Int} (h : W1 = wsn W p l.toNat) (hl : l = 3) : W1 = wsn W p 3 := by subst hl; exact h
/-- an act: its kind a, W (of snap the PICTURE) x, T t, B (of wear the SCREEN) b, whom it is told v -/
def wact (W : WD) (a : Int) (x t : Nat) (b : Int) (v : Nat) : WD :=
  if a = 0 then u2 W 0 x 1
  else if a = 1 then u2 W 0 x 0
  else if a = 2 then (if W 3 t = -1 then wmv W x t b else W)
  else if a = 3 then (if W 3 t = -1 then W else wmv W x t b)
  else if a = 4 then wtell W x v t b
  else if a = 5 then wlift W x b
  else if a = 6 then u2 (u2 W 1 x b) 2 (2 * x + b.toNat) 1
  else if a = 7 then u2 W 1 x (-1)
  else wsn W x 3
/-- what holds of every world that comes up -/
def WOK (n : Int) (W : WD) : Prop := (∀ v, v < 4 → (0 ≤ W 0 v ∧ W 0 v ≤ 1) ∧ (-1 ≤ W 1 v ∧ W 1 v ≤ 1)) ∧ ∀ t, t < 3 → 0 ≤ W 6 t ∧ W 6 t ≤ n ∧ ((W 6 t = 0 ∧ W 3 t = -1) ∨ (1 ≤ W 6 t ∧ 0 ≤ W 3 t ∧ W 3 t ≤ 3))
theorem WOK_m {n m : Int} {W : WD} (h : WOK n W) (hm : n ≤ m) : WOK m W := ⟨h.1, fun t ht => by have := h.2 t ht; omega⟩
theorem WOK_s {n : Int} {W W1 : WD} (h : WOK n W) (e : ∀ f j, (f = 0 ∨ f = 1 ∨ f = 3 ∨ f = 6) → W1 f j = W f j) : WOK n W1 :=
  ⟨fun v hv => by rw [e 0 v (by omega), e 1 v (by omega)]; exact h.1 v hv, fun t ht => by rw [e 6 t (by omega), e 3 t (by omega)]; exact h.2 t ht⟩
theorem WOK_mv {n b : Int} {W : WD} {x t : Nat} (h : WOK n W) (h0 : 0 ≤ n) (ht : t < 3) (hb : 0 ≤ b ∧ b ≤ 3) : WOK (n + 1) (wmv W x t b) := by
  unfold wmv
  split
  · have e : ∀ f j, (f = 0 ∨ f = 1 ∨ f = 3 ∨ f = 6) → wbrL (wbrS W x t b) x t b 4 f j = wbrS W x t b f j := fun f j hf => wbrL_lo (by omega) 4
    have e2 : ∀ f j, (f = 0 ∨ f = 1) → wbrS W x t b f j = W f j := fun f j hf => by
      unfold wbrS
      rw [u2_ne (by omega), u2_ne (by omega), u2_ne (by omega), u2_ne (by omega)]
      split
      · exact u2_ne (by omega)
      · rfl
    have e3 : ∀ j, wbrS W x t b 3 j = if j = t then b else W 3 j := fun j => by
      unfold wbrS
      rw [u2_ne (by omega), u2_ne (by omega)]
      by_cases c : j = t
      · rw [if_pos c, c, u2_eq]
      · rw [if_neg c, u2_ne (by omega), u2_ne (by omega)]
        split
        · exact u2_ne (by omega)
        · rfl
    have e6 : ∀ j, wbrS W x t b 6 j = if j = t then W 6 t + 1 else W 6 j := fun j => by
      unfold wbrS
      rw [u2_ne (by omega)]
      by_cases c : j = t
      · rw [if_pos c, c, u2_eq]
      · rw [if_neg c, u2_ne (by omega), u2_ne (by omega), u2_ne (by omega)]
        split
        · exact u2_ne (by omega)
        · rfl
    refine ⟨fun v hv => ?_, fun s hs => ?_⟩
    · rw [e 0 v (by omega), e 1 v (by omega), e2 0 v (by omega), e2 1 v (by omega)]; exact h.1 v hv
    · rw [e 3 s (by omega), e 6 s (by omega), e3, e6]
      have z := h.2 s hs
      by_cases c : s = t
      · subst c; rw [if_pos rfl, if_pos rfl]; omega
      · rw [if_neg c, if_neg c]; omega
  · exact WOK_m h (by omega)
theorem wtlL_lo {W : WD} {v t : Nat} {b : Int} {f j : Nat} (hf : f < 12) : ∀ k, wtlL W v t b k f j = W f j
  | 0 => rfl
  | k + 1 => by
    show wtl1 (wtlL W v t b k) v t b k f j = W f j
    unfold wtl1
    split
    · rw [u2_ne (by omega)]; exact wtlL_lo hf k
    · exact wtlL_lo hf k
theorem WOK_act {n a b : Int} {W : WD} {x t v : Nat} (h : WOK n W) (h0 : 0 ≤ n) (hx : x < 4) (ht : a = 2 ∨ a = 3 → t < 3) (hb : a = 2 ∨ a = 3 → 0 ≤ b ∧ b ≤ 3) (hs : a = 6 → 0 ≤ b ∧ b ≤ 1) : WOK (n + 1) (wact W a x t b v) := by
  unfold wact
  split
  · refine ⟨fun w hw => ?_, fun s hs => ?_⟩
    · rw [show u2 W 0 x 1 1 w = W 1 w from u2_ne (by omega)]
      have z := h.1 w hw
      by_cases c : w = x
      · subst c; rw [u2_eq]; omega
      · rw [u2_ne (by omega)]; omega
    · rw [u2_ne (by omega), u2_ne (by omega)]; have := h.2 s hs; omega
  · split
    · refine ⟨fun w hw => ?_, fun s hs => ?_⟩
      · rw [show u2 W 0 x 0 1 w = W 1 w from u2_ne (by omega)]
        have z := h.1 w hw
        by_cases c : w = x
        · subst c; rw [u2_eq]; omega
        · rw [u2_ne (by omega)]; omega
      · rw [u2_ne (by omega), u2_ne (by omega)]; have := h.2 s hs; omega
    · split
      · split
        · exact WOK_mv h h0 (ht (by omega)) (hb (by omega))
        · exact WOK_m h (by omega)
      · split
        · split
          · exact WOK_m h (by omega)
          · exact WOK_mv h h0 (ht (by omega)) (hb (by omega))
        · split
          · refine WOK_m (WOK_s h (fun f j hf => ?_)) (by omega)
            unfold wtell
            split
            · rw [wtlL_lo (by omega)]; unfold wtlB; rw [u2_ne (by omega), u2_ne (by omega)]
            · rfl
          · split
            · refine WOK_m (WOK_s h (fun f j hf => ?_)) (by omega)
              unfold wlift
              split
              · exact wlf_no (by unfold LRV; omega)
              · rfl
            · split
              · refine ⟨fun w hw => ?_, fun s hs => ?_⟩
                · rw [show u2 (u2 W 1 x b) 2 (2 * x + b.toNat) 1 0 w = W 0 w from (u2_ne (by omega)).trans (u2_ne (by omega)), show u2 (u2 W 1 x b) 2 (2 * x + b.toNat) 1 1 w = u2 W 1 x b 1 w from u2_ne (by omega)]
                  have z := h.1 w hw
                  have y := hs (by omega)
                  by_cases c : w = x
                  · subst c; rw [u2_eq]; omega
                  · rw [u2_ne (by omega)]; omega
                · rw [u2_ne (by omega), u2_ne (by omega), u2_ne (by omega), u2_ne (by omega)]; have := h.2 s hs; omega
              · split
                · refine ⟨fun w hw => ?_, fun s hs => ?_⟩
                  · rw [show u2 W 1 x (-1) 0 w = W 0 w from u2_ne (by omega)]
                    have z := h.1 w hw
                    by_cases c : w = x
                    · subst c; rw [u2_eq]; omega
                    · rw [u2_ne (by omega)]; omega
                  · rw [u2_ne (by omega), u2_ne (by omega)]; have := h.2 s hs; omega
                · refine WOK_m (WOK_s h (fun f j hf => ?_)) (by omega)
                  show u2 (u2 (u2 W 7 (3 * x + 0) (W 3 0)) 7 (3 * x + 1) (W 3 1)) 7 (3 * x + 2) (W 3 2) f j = W f j
                  rw [u2_ne (by omega), u2_ne (by omega), u2_ne (by omega)]
/-- what a whole number that stands for an act says -/
def ADEC (act a x t b v : Int) : Prop := am_and act 15 = a ∧ (0 ≤ a ∧ a ≤ 8) ∧ am_and (am_shr act 8) 3 ≤ 2 ∧ (¬ a = 8 → am_and (am_shr act 4) 3 = x) ∧ (a = 8 → am_and (am_shr act 13) 1 = x) ∧ (a = 2 ∨ a = 3 ∨ a = 4 → am_and (am_shr act 8) 3 = t) ∧ (a = 2 ∨ a = 3 ∨ a = 4 ∨ a = 5 → am_and (am_shr act 10) 3 = b) ∧ (a = 6 → am_and (am_shr act 12) 1 = b) ∧ (a = 4 → am_and (am_shr act 6) 3 = v ∧ ¬ x = v)
theorem wact_0 {W W2 : WD} {a b : Int} {x t v i : Nat} (ha : a = 0) (e : W2 = u2 W 0 i 1) (hi : i = x) : W2 = wact W a x t b v := by subst ha; subst hi; rw [e]; rfl
theorem wact_1 {W W2 : WD} {a b : Int} {x t v i : Nat} (ha : a = 1) (e : W2 = u2 W 0 i 0) (hi : i = x) : W2 = wact W a x t b v := by subst ha; subst hi; rw [e]; rfl
theorem wact_2 {W W2 : WD} {a b b' : Int} {x t v x' t' : Nat} (ha : a = 2) (c : W 3 t' = -1) (e : W2 = wmv W x' t' b') (hx : x' = x) (ht : t' = t) (hb : b' = b) : W2 = wact W a x t b v := by
  subst ha; subst hx; subst ht; subst hb
  unfold wact
  rw [if_neg (by decide), if_neg (by decide), if_pos rfl, if_pos c, e]
theorem wact_2n {W W2 : WD} {a b : Int} {x t v t' : Nat} (ha : a = 2) (c : ¬ W 3 t' = -1) (e : W2 = W) (ht : t' = t) : W2 = wact W a x t b v := by
  subst ha; subst ht
  unfold wact
  rw [if_neg (by decide), if_neg (by decide), if_pos rfl, if_neg c, e]
theorem wact_3 {W W2 : WD} {a b b' : Int} {x t v x' t' : Nat} (ha : a = 3) (c : ¬ W 3 t' = -1) (e : W2 = wmv W x' t' b') (hx : x' = x) (ht : t' = t) (hb : b' = b) : W2 = wact W a x t b v := by
  subst ha; subst hx; subst ht; subst hb
  unfold wact
  rw [if_neg (by decide), if_neg (by decide), if_neg (by decide), if_pos rfl, if_neg c, e]
theorem wact_3n {W W2 : WD} {a b : Int} {x t v t' : Nat} (ha : a = 3) (c : W 3 t' = -1) (e : W2 = W) (ht : t' = t) : W2 = wact W a x t b v := by
  subst ha; subst ht
  unfold wact
  rw [if_neg (by decide), if_neg (by decide), if_neg (by decide), if_pos rfl, if_pos c, e]
theorem wact_4 {W W2 : WD} {a b b' : Int} {x t v x' t' v' : Nat} (ha : a = 4) (e : W2 = wtell W x' v' t' b') (hx : x' = x) (ht : t' = t) (hb : b' = b) (hv : v' = v) : W2 = wact W a x t b v := by
  subst ha; subst hx; subst ht; subst hb; subst hv
  unfold wact
  rw [if_neg (by decide), if_neg (by decide), if_neg (by decide), if_neg (by decide), if_pos rfl, e]
theorem wact_5 {W W2 : WD} {a b b' : Int} {x t v x' : Nat} (ha : a = 5) (e : W2 = wlift W x' b') (hx : x' = x) (hb : b' = b) : W2 = wact W a x t b v := by
  subst ha; subst hx; subst hb
  unfold wact
  rw [if_neg (by decide), if_neg (by decide), if_neg (by decide), if_neg (by decide), if_neg (by decide), if_pos rfl, e]
theorem wact_6 {W W2 : WD} {a b b' : Int} {x t v x' i : Nat} (ha : a = 6) (e : W2 = u2 (u2 W 1 x' b') 2 i 1) (hx : x' = x) (hb : b' = b) (hi : i = 2 * x + b.toNat) : W2 = wact W a x t b v := by
  subst ha; subst hx; subst hb; subst hi
  unfold wact
  rw [if_neg (by decide), if_neg (by decide), if_neg (by decide), if_neg (by decide), if_neg (by decide), if_neg (by decide), if_pos rfl, e]
theorem wact_7 {W W2 : WD} {a b : Int} {x t v i : Nat} (ha : a = 7) (e : W2 = u2 W 1 i (-1)) (hi : i = x) : W2 = wact W a x t b v := by
  subst ha; subst hi
  unfold wact
  rw [if_neg (by decide), if_neg (by decide), if_neg (by decide), if_neg (by decide), if_neg (by decide), if_neg (by decide), if_neg (by decide), if_pos rfl, e]
theorem wact_8 {W W2 : WD} {a b : Int} {x t v i : Nat} (ha : a = 8) (e : W2 = wsn W i 3) (hi : i = x) : W2 = wact W a x t b v := by
  subst ha; subst hi
  unfold wact
  rw [if_neg (by decide), if_neg (by decide), if_neg (by decide), if_neg (by decide), if_neg (by decide), if_neg (by decide), if_neg (by decide), if_neg (by decide), e]
def wput (W : WD) (x t : Nat) (b : Int) : WD := if W 3 t = -1 then wmv W x t b else W
def wmov (W : WD) (x t : Nat) (b : Int) : WD := if W 3 t = -1 then W else wmv W x t b
theorem wput_y {W W1 : WD} {x t : Nat} {b l : Int} (c : W 3 t = -1) (h : W1 = wbrL (wbrS W x t b) x t b l.toNat) (hl : l = 4) (hx : W 0 x = 1) : W1 = wput W x t b := by unfold wput; rw [if_pos c]; exact wmv_e h hl hx
theorem wmov_y {W W1 : WD} {x t : Nat} {b l : Int} (c : ¬ W 3 t = -1) (h : W1 = wbrL (wbrS W x t b) x t b l.toNat) (hl : l = 4) (hx : W 0 x = 1) : W1 = wmov W x t b := by unfold wmov; rw [if_neg c]; exact wmv_e h hl hx
theorem wput_n {W W1 : WD} {x t : Nat} {b : Int} (c : ¬ W 3 t = -1 ∨ ¬ W 0 x = 1) (e : W1 = W) : W1 = wput W x t b := by
  unfold wput; split
  · exact wmv_n (by omega) e
  · exact e
theorem wmov_n {W W1 : WD} {x t : Nat} {b : Int} (c : W 3 t = -1 ∨ ¬ W 0 x = 1) (e : W1 = W) : W1 = wmov W x t b := by
  unfold wmov; split
  · exact e
  · exact wmv_n (by omega) e
theorem wact_2r {W W2 : WD} {a b b' : Int} {x t v x' t' : Nat} (ha : a = 2) (e : W2 = wput W x' t' b') (hx : x' = x) (ht : t' = t) (hb : b' = b) : W2 = wact W a x t b v := by
  subst ha; subst hx; subst ht; subst hb
  unfold wact
  rw [if_neg (by decide), if_neg (by decide), if_pos rfl]; exact e
theorem wact_3r {W W2 : WD} {a b b' : Int} {x t v x' t' : Nat} (ha : a = 3) (e : W2 = wmov W x' t' b') (hx : x' = x) (ht : t' = t) (hb : b' = b) : W2 = wact W a x t b v := by
  subst ha; subst hx; subst ht; subst hb
  unfold wact
  rw [if_neg (by decide), if_neg (by decide), if_neg (by decide), if_pos rfl]; exact e
/-- all numbers up to n are v -/
def ALLV (g : Nat → Int) (n v : Int) : Prop := ∀ j : Nat, (j : Int) < n → g j = v
theorem ALLV_0 {g : Nat → Int} {n v : Int} (h : n ≤ 0) : ALLV g n v := fun j hj => by omega
theorem ALLV_s {g g' : Nat → Int} {n n' v : Int} (h : ALLV g n v) (h0 : 0 ≤ n) (hn : n' = n + 1) (k : ∀ j : Nat, (j : Int) < n → g' j = g j) (e : g' n.toNat = v) : ALLV g' n' v := fun j hj => by
  by_cases c : (j : Int) < n
  · rw [k j c]; exact h j c
  · rw [show j = n.toNat by omega]; exact e
theorem ALLV_2 {g g' : Nat → Int} {n n' v : Int} (h : ALLV g n v) (h0 : 0 ≤ n) (hn : n' = n + 2) (k : ∀ j : Nat, (j : Int) < n → g' j = g j) (e : g' n.toNat = v) (e2 : g' (n.toNat + 1) = v) : ALLV g' n' v := fun j hj => by
  by_cases c : (j : Int) < n
  · rw [k j c]; exact h j c
  · by_cases c2 : j = n.toNat
    · rw [c2]; exact e
    · rw [show j = n.toNat + 1 by omega]; exact e2
theorem ALLV_k {g g' : Nat → Int} {n n' v : Int} (h : ALLV g n v) (hn : n' ≤ n) (k : ∀ j : Nat, g' j = g j) : ALLV g' n' v := fun j hj => by rw [k j]; exact h j (by omega)
/-- the beginning -/
def W0 : WD := fun f j => if f < 13 ∧ j < LN f then (if f = 0 ∨ f = 2 ∨ f = 6 ∨ f = 11 then 0 else -1) else 0
/-- a SCENE: its acts out of g from o on, n of them -/
def wpl (g : Nat → Int) (o : Nat) : Nat → WD
  | 0 => W0
  | i + 1 => wact (wpl g o i) (g (o + 5 * i)) (g (o + 5 * i + 1)).toNat (g (o + 5 * i + 2)).toNat (g (o + 5 * i + 3)) (g (o + 5 * i + 4)).toNat
theorem W0_c {o : Nat} {D : Nat → Nat → Int} (h : ∀ f, f < 13 → ∀ j, j < LN f → D (o + f) j = if f = 0 ∨ f = 2 ∨ f = 6 ∨ f = 11 then 0 else -1) : VC o D = W0 := by
  funext a b
  unfold VC W0
  by_cases c : a < 13 ∧ b < LN a
  · rw [if_pos c, if_pos c]; exact h a c.1 b c.2
  · rw [if_neg c, if_neg c]
theorem W0_r {D : Nat → Nat → Int} (h : ∀ f, f < 13 → ∀ j, j < LN f → D (SGR f) j = if f = 0 ∨ f = 2 ∨ f = 6 ∨ f = 11 then 0 else -1) : VR D = W0 := by
  funext a b
  unfold VR W0
  by_cases c : a < 13 ∧ b < LN a
  · rw [if_pos c, if_pos c]; exact h a c.1 b c.2
  · rw [if_neg c, if_neg c]
theorem WOK_0 : WOK 0 W0 := by
  refine ⟨fun v hv => ?_, fun t ht => ?_⟩
  · rw [show W0 0 v = 0 from (if_pos ⟨by decide, hv⟩), show W0 1 v = -1 from (if_pos ⟨by decide, hv⟩)]; decide
  · rw [show W0 6 t = 0 from (if_pos ⟨by decide, ht⟩), show W0 3 t = -1 from (if_pos ⟨by decide, ht⟩)]; decide
theorem W0_c13 {D : Nat → Nat → Int} {o : Nat} (h0 : ALLV (D (o + 0)) 4 0) (h1 : ALLV (D (o + 1)) 4 (-1)) (h2 : ALLV (D (o + 2)) 8 0) (h3 : ALLV (D (o + 3)) 3 (-1)) (h4 : ALLV (D (o + 4)) 3 (-1)) (h5 : ALLV (D (o + 5)) 3 (-1)) (h6 : ALLV (D (o + 6)) 3 0) (h7 : ALLV (D (o + 7)) 6 (-1)) (h8 : ALLV (D (o + 8)) 12 (-1)) (h9 : ALLV (D (o + 9)) 12 (-1)) (h10 : ALLV (D (o + 10)) 12 (-1)) (h11 : ALLV (D (o + 11)) 12 0) (h12 : ALLV (D (o + 12)) 48 (-1)) : VC o D = W0 := by
  refine W0_c (fun f hf j hj => ?_)
  match f, hf with
  | 0, _ => exact h0 j (by have : j < 4 := hj; omega)
  | 1, _ => exact h1 j (by have : j < 4 := hj; omega)
  | 2, _ => exact h2 j (by have : j < 8 := hj; omega)
  | 3, _ => exact h3 j (by have : j < 3 := hj; omega)
  | 4, _ => exact h4 j (by have : j < 3 := hj; omega)
  | 5, _ => exact h5 j (by have : j < 3 := hj; omega)
  | 6, _ => exact h6 j (by have : j < 3 := hj; omega)
  | 7, _ => exact h7 j (by have : j < 6 := hj; omega)
  | 8, _ => exact h8 j (by have : j < 12 := hj; omega)
  | 9, _ => exact h9 j (by have : j < 12 := hj; omega)
  | 10, _ => exact h10 j (by have : j < 12 := hj; omega)
  | 11, _ => exact h11 j (by have : j < 12 := hj; omega)
  | 12, _ => exact h12 j (by have : j < 48 := hj; omega)
  | n + 13, h => omega
theorem W0_r13 {D : Nat → Nat → Int} (h0 : ALLV (D 88) 4 0) (h1 : ALLV (D 91) 4 (-1)) (h2 : ALLV (D 89) 8 0) (h3 : ALLV (D 92) 3 (-1)) (h4 : ALLV (D 94) 3 (-1)) (h5 : ALLV (D 95) 3 (-1)) (h6 : ALLV (D 93) 3 0) (h7 : ALLV (D 100) 6 (-1)) (h8 : ALLV (D 96) 12 (-1)) (h9 : ALLV (D 97) 12 (-1)) (h10 : ALLV (D 98) 12 (-1)) (h11 : ALLV (D 90) 12 0) (h12 : ALLV (D 99) 48 (-1)) : VR D = W0 := by
  refine W0_r (fun f hf j hj => ?_)
  match f, hf with
  | 0, _ => exact h0 j (by have : j < 4 := hj; omega)
  | 1, _ => exact h1 j (by have : j < 4 := hj; omega)
  | 2, _ => exact h2 j (by have : j < 8 := hj; omega)
  | 3, _ => exact h3 j (by have : j < 3 := hj; omega)
  | 4, _ => exact h4 j (by have : j < 3 := hj; omega)
  | 5, _ => exact h5 j (by have : j < 3 := hj; omega)
  | 6, _ => exact h6 j (by have : j < 3 := hj; omega)
  | 7, _ => exact h7 j (by have : j < 6 := hj; omega)
  | 8, _ => exact h8 j (by have : j < 12 := hj; omega)
  | 9, _ => exact h9 j (by have : j < 12 := hj; omega)
  | 10, _ => exact h10 j (by have : j < 12 := hj; omega)
  | 11, _ => exact h11 j (by have : j < 12 := hj; omega)
  | 12, _ => exact h12 j (by have : j < 48 := hj; omega)
  | n + 13, h => omega
theorem wpl_s {W1 W2 : WD} {g : Nat → Int} {o i0 i1 i2 i3 i4 : Nat} {l : Int} (h : W1 = wpl g o l.toNat) (h0 : 0 ≤ l) (e : W2 = wact W1 (g i0) (g i1).toNat (g i2).toNat (g i3) (g i4).toNat) (e0 : i0 = o + 5 * l.toNat) (e1 : i1 = i0 + 1) (e2 : i2 = i0 + 2) (e3 : i3 = i0 + 3) (e4 : i4 = i0 + 4) : W2 = wpl g o (l + 1).toNat := by
  subst e1; subst e2; subst e3; subst e4; subst e0
  rw [show (l + 1).toNat = l.toNat + 1 by omega]
  rw [e, h]; rfl
theorem WOK_pl {f : Nat → Int} {k : Nat} (hM : MW f) (hk : k < 8) : ∀ i : Nat, i ≤ 24 → WOK (i : Int) (wpl f (14 + 120 * k) i)
  | 0, _ => WOK_0
  | i + 1, hi => by
    have a := hM.2.1 (24 * k + i) (by omega)
    rw [show 14 + 5 * (24 * k + i) = 14 + 120 * k + 5 * i by omega] at a
    obtain ⟨a1, a2, a3, a4, a5, a6, a7⟩ := a
    have z := WOK_act (x := (f (14 + 120 * k + 5 * i + 1)).toNat) (t := (f (14 + 120 * k + 5 * i + 2)).toNat) (b := f (14 + 120 * k + 5 * i + 3)) (v := (f (14 + 120 * k + 5 * i + 4)).toNat) (a := f (14 + 120 * k + 5 * i)) (WOK_pl hM hk i (by omega)) (by omega) (by omega) (by omega) (by omega) (by omega)
    rw [show ((i + 1 : Nat) : Int) = (i : Int) + 1 by omega]
    exact z
/-- the scenes are alike -/
def SCL (A C f : Nat → Int) : Prop := ∀ k : Nat, k < 8 → C k = f (6 + k) ∧ ∀ i : Nat, (i : Int) < f (6 + k) → ADEC (A (24 * k + i)) (f (14 + 120 * k + 5 * i)) (f (14 + 120 * k + 5 * i + 1)) (f (14 + 120 * k + 5 * i + 2)) (f (14 + 120 * k + 5 * i + 3)) (f (14 + 120 * k + 5 * i + 4))
def wend (f : Nat → Int) (k : Int) : WD := wpl f (14 + 120 * k.toNat) (f (6 + k).toNat).toNat
theorem wend_e {W1 : WD} {f : Nat → Int} {k l : Int} (h : W1 = wpl f (14 + 120 * k.toNat) l.toNat) (hl : l = f (6 + k).toNat) : W1 = wend f k := by subst hl; exact h
/-- what is asked of a world -/
def AFT (W : WD) (t w : Nat) (what : Int) : Int := if what = 0 then W 3 t else if what = 1 then W 8 (3 * w + t) else if what = 2 then W 9 (3 * w + t) else if what = 3 then W 10 (3 * w + t) else if what = 4 then W 11 (3 * w + t) else if what = 5 then W 6 t else if what = 6 then W 7 t else if what = 7 then W 7 (3 + t) else if what = 8 then W 4 t else W 5 t
def HER (W : WD) (w : Nat) (what : Int) : Int := if what = 0 then W 0 w else if what = 1 then (if wcan W w = true then 1 else 0) else if what = 2 then W 2 (2 * w) else W 2 (2 * w + 1)
