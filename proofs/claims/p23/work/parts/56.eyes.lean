/-! rows of two numbers: the class's and the reference's alike -/
def RW2 (g f : Nat → Int) (n : Int) (o : Nat) : Prop := ∀ j : Nat, (j : Int) < 2 * n → g j = f (o + j)
theorem RW2_k {g g' f f' : Nat → Int} {n n' : Int} {o : Nat} (h : RW2 g f n o) (hg : ∀ j : Nat, g' j = g j) (hf : ∀ j : Nat, 7340 ≤ j → f' j = f j) (ho : 7340 ≤ o) (hn : n' = n) : RW2 g' f' n' o := by
  subst hn
  intro j hj
  rw [hg, hf _ (by omega)]
  exact h j hj
theorem RW2_a {g g' f f' : Nat → Int} {n m n' a b a' b' : Int} {o : Nat} (h : RW2 g f n o) (hm : m = n) (h0 : 0 ≤ n) (hg : ∀ j : Nat, (j : Int) < 2 * m → g' j = g j) (ga : g' ((m * 2) + 0).toNat = a) (gb : g' ((m * 2) + 1).toNat = b) (hf : ∀ j : Nat, o ≤ j → (j : Int) < o + 2 * n → f' j = f j) (fa : f' (o + (2 * n)).toNat = a') (fb : f' ((o + (2 * n)) + 1).toNat = b') (ea : a = a') (eb : b = b') (hn : n' = n + 1) : RW2 g' f' n' o := by
  subst hn; subst hm; subst ea; subst eb
  intro j hj
  by_cases c : (j : Int) < 2 * m
  · rw [hg j c, hf _ (by omega) (by omega)]; exact h j c
  · by_cases e : (j : Int) = m * 2 + 0
    · rw [show j = ((m * 2) + 0).toNat by omega, ga, show o + ((m * 2) + 0).toNat = (o + (2 * m)).toNat by omega, fa]
    · rw [show j = ((m * 2) + 1).toNat by omega, gb, show o + ((m * 2) + 1).toNat = ((o + (2 * m)) + 1).toNat by omega, fb]
theorem RW2_i {g g' f f' : Nat → Int} {n n' : Int} {o q : Nat} (h : RW2 g f n o) (hg : ∀ j : Nat, j < q → g' j = g j) (hf : ∀ j : Nat, j < 7460 → f' j = f j) (hq : 2 * n ≤ q) (ho : o + q ≤ 7460) (hn : n' = n) : RW2 g' f' n' o := by
  subst hn
  intro j hj
  rw [hg j (by omega), hf _ (by omega)]
  exact h j hj
theorem RW2_0 {g f : Nat → Int} {n : Int} {o : Nat} (hn : n ≤ 0) : RW2 g f n o := fun j hj => by omega
theorem cp_at {D : Nat → Nat → Int} {r0 r1 n j : Nat} (h : j < n) : am_cp D r0 r1 0 0 n r1 j = D r0 j := by
  unfold am_cp
  rw [if_pos ⟨rfl, by omega⟩]
  congr 1; omega
theorem im_all {f f' : Nat → Int} {l : Int} (h : ∀ j : Nat, (j : Int) < l → f' j = f j) (hl : 7460 ≤ l) : ∀ j : Nat, j < 7460 → f' j = f j := fun j h2 => h j (by omega)
/-- all numbers of the rows lie in between -/
def RB (lo hi lo' hi' : Int) (g : Nat → Int) (n : Int) : Prop := ∀ i : Int, 0 ≤ i → i < n → (lo ≤ g ((i * 2) + 0).toNat ∧ g ((i * 2) + 0).toNat ≤ hi) ∧ (lo' ≤ g ((i * 2) + 1).toNat ∧ g ((i * 2) + 1).toNat ≤ hi')
theorem RB_e {g f : Nat → Int} {n m : Int} (h : RW2 g f n 7340) (hM : MW f) (hn : n ≤ 40) (hm : m = n) : RB 0 9999 0 9999 g m := by
  subst hm
  intro i h0 h1
  have z := MW_e hM i ⟨h0, by omega⟩
  rw [h _ (by omega), h _ (by omega), show 7340 + ((i * 2) + 0).toNat = (7340 + (2 * i)).toNat by omega, show 7340 + ((i * 2) + 1).toNat = ((7340 + (2 * i)) + 1).toNat by omega]
  exact z
theorem RB_h {g f : Nat → Int} {m : Int} (h : RW2 g f (f 5) 7420) (hM : MW f) (hm : m = f 5) : RB 1 999 0 999 g m := by
  subst hm
  intro i h0 h1
  have z := MW_h hM i ⟨h0, h1⟩
  rw [h _ (by omega), h _ (by omega), show 7420 + ((i * 2) + 0).toNat = (7420 + (2 * i)).toNat by omega, show 7420 + ((i * 2) + 1).toNat = ((7420 + (2 * i)) + 1).toNat by omega]
  exact z
/-! EYES: the rows that count, added -/
def ER (g : Nat → Int) (le j : Int) : Nat → Int
  | 0 => 0
  | i + 1 => if (g (2 * i) + g (2 * i + 1) < le ∨ (j = 2 ∧ (3000 < g (2 * i) ∨ 3000 < g (2 * i + 1)))) then ER g le j i else ER g le j i + (if j = 1 ∧ 3000 < g (2 * i) then 3000 else g (2 * i))
def EW (g : Nat → Int) (le j : Int) : Nat → Int
  | 0 => 0
  | i + 1 => if (g (2 * i) + g (2 * i + 1) < le ∨ (j = 2 ∧ (3000 < g (2 * i) ∨ 3000 < g (2 * i + 1)))) then EW g le j i else EW g le j i + (if j = 1 ∧ 3000 < g (2 * i + 1) then 3000 else g (2 * i + 1))
def EN (g : Nat → Int) (le j : Int) : Nat → Int
  | 0 => 0
  | i + 1 => if (g (2 * i) + g (2 * i + 1) < le ∨ (j = 2 ∧ (3000 < g (2 * i) ∨ 3000 < g (2 * i + 1)))) then EN g le j i else EN g le j i + (if (if j = 1 ∧ 3000 < g (2 * i) then 3000 else g (2 * i)) = (if j = 1 ∧ 3000 < g (2 * i + 1) then 3000 else g (2 * i + 1)) then 0 else 1)
def EC (g : Nat → Int) (le j : Int) : Nat → Int
  | 0 => 0
  | i + 1 => if (g (2 * i) + g (2 * i + 1) < le ∨ (j = 2 ∧ (3000 < g (2 * i) ∨ 3000 < g (2 * i + 1)))) then EC g le j i else EC g le j i + (if (if j = 1 ∧ 3000 < g (2 * i) then 3000 else g (2 * i)) < (if j = 1 ∧ 3000 < g (2 * i + 1) then 3000 else g (2 * i + 1)) then 1 else 0)
theorem ER_c {g : Nat → Int} {le j i : Int} (h : 0 ≤ i) : ER g le j (i + 1).toNat = if (g ((i * 2) + 0).toNat + g ((i * 2) + 1).toNat < le ∨ (j = 2 ∧ (3000 < g ((i * 2) + 0).toNat ∨ 3000 < g ((i * 2) + 1).toNat))) then ER g le j i.toNat else ER g le j i.toNat + (if j = 1 ∧ 3000 < g ((i * 2) + 0).toNat then 3000 else g ((i * 2) + 0).toNat) := by
  rw [show (i + 1).toNat = i.toNat + 1 by omega, show ((i * 2) + 0).toNat = 2 * i.toNat by omega, show ((i * 2) + 1).toNat = 2 * i.toNat + 1 by omega]
  rfl
theorem ER_r {f : Nat → Int} {le j i : Int} (h : 0 ≤ i) : ER (fun q => f (7340 + q)) le j (i + 1).toNat = if (f (7340 + (2 * i)).toNat + f ((7340 + (2 * i)) + 1).toNat < le ∨ (j = 2 ∧ (3000 < f (7340 + (2 * i)).toNat ∨ 3000 < f ((7340 + (2 * i)) + 1).toNat))) then ER (fun q => f (7340 + q)) le j i.toNat else ER (fun q => f (7340 + q)) le j i.toNat + (if j = 1 ∧ 3000 < f (7340 + (2 * i)).toNat then 3000 else f (7340 + (2 * i)).toNat) := by
  rw [show (i + 1).toNat = i.toNat + 1 by omega, show (7340 + (2 * i)).toNat = 7340 + 2 * i.toNat by omega, show ((7340 + (2 * i)) + 1).toNat = 7340 + (2 * i.toNat + 1) by omega]
  rfl
theorem ER_con {g f : Nat → Int} {le j : Int} : ∀ n : Nat, (∀ q, q < 2 * n → f q = g q) → ER f le j n = ER g le j n
  | 0, _ => rfl
  | n + 1, h => by
    unfold ER
    rw [h (2 * n) (by omega), h (2 * n + 1) (by omega), ER_con n (fun q hq => h q (by omega))]
theorem EW_c {g : Nat → Int} {le j i : Int} (h : 0 ≤ i) : EW g le j (i + 1).toNat = if (g ((i * 2) + 0).toNat + g ((i * 2) + 1).toNat < le ∨ (j = 2 ∧ (3000 < g ((i * 2) + 0).toNat ∨ 3000 < g ((i * 2) + 1).toNat))) then EW g le j i.toNat else EW g le j i.toNat + (if j = 1 ∧ 3000 < g ((i * 2) + 1).toNat then 3000 else g ((i * 2) + 1).toNat) := by
  rw [show (i + 1).toNat = i.toNat + 1 by omega, show ((i * 2) + 0).toNat = 2 * i.toNat by omega, show ((i * 2) + 1).toNat = 2 * i.toNat + 1 by omega]
  rfl
theorem EW_r {f : Nat → Int} {le j i : Int} (h : 0 ≤ i) : EW (fun q => f (7340 + q)) le j (i + 1).toNat = if (f (7340 + (2 * i)).toNat + f ((7340 + (2 * i)) + 1).toNat < le ∨ (j = 2 ∧ (3000 < f (7340 + (2 * i)).toNat ∨ 3000 < f ((7340 + (2 * i)) + 1).toNat))) then EW (fun q => f (7340 + q)) le j i.toNat else EW (fun q => f (7340 + q)) le j i.toNat + (if j = 1 ∧ 3000 < f ((7340 + (2 * i)) + 1).toNat then 3000 else f ((7340 + (2 * i)) + 1).toNat) := by
  rw [show (i + 1).toNat = i.toNat + 1 by omega, show (7340 + (2 * i)).toNat = 7340 + 2 * i.toNat by omega, show ((7340 + (2 * i)) + 1).toNat = 7340 + (2 * i.toNat + 1) by omega]
  rfl
theorem EW_con {g f : Nat → Int} {le j : Int} : ∀ n : Nat, (∀ q, q < 2 * n → f q = g q) → EW f le j n = EW g le j n
  | 0, _ => rfl
  | n + 1, h => by
    unfold EW
    rw [h (2 * n) (by omega), h (2 * n + 1) (by omega), EW_con n (fun q hq => h q (by omega))]
theorem EN_c {g : Nat → Int} {le j i : Int} (h : 0 ≤ i) : EN g le j (i + 1).toNat = if (g ((i * 2) + 0).toNat + g ((i * 2) + 1).toNat < le ∨ (j = 2 ∧ (3000 < g ((i * 2) + 0).toNat ∨ 3000 < g ((i * 2) + 1).toNat))) then EN g le j i.toNat else EN g le j i.toNat + (if (if j = 1 ∧ 3000 < g ((i * 2) + 0).toNat then 3000 else g ((i * 2) + 0).toNat) = (if j = 1 ∧ 3000 < g ((i * 2) + 1).toNat then 3000 else g ((i * 2) + 1).toNat) then 0 else 1) := by
  rw [show (i + 1).toNat = i.toNat + 1 by omega, show ((i * 2) + 0).toNat = 2 * i.toNat by omega, show ((i * 2) + 1).toNat = 2 * i.toNat + 1 by omega]
  rfl
theorem EN_r {f : Nat → Int} {le j i : Int} (h : 0 ≤ i) : EN (fun q => f (7340 + q)) le j (i + 1).toNat = if (f (7340 + (2 * i)).toNat + f ((7340 + (2 * i)) + 1).toNat < le ∨ (j = 2 ∧ (3000 < f (7340 + (2 * i)).toNat ∨ 3000 < f ((7340 + (2 * i)) + 1).toNat))) then EN (fun q => f (7340 + q)) le j i.toNat else EN (fun q => f (7340 + q)) le j i.toNat + (if (if j = 1 ∧ 3000 < f (7340 + (2 * i)).toNat then 3000 else f (7340 + (2 * i)).toNat) = (if j = 1 ∧ 3000 < f ((7340 + (2 * i)) + 1).toNat then 3000 else f ((7340 + (2 * i)) + 1).toNat) then 0 else 1) := by
  rw [show (i + 1).toNat = i.toNat + 1 by omega, show (7340 + (2 * i)).toNat = 7340 + 2 * i.toNat by omega, show ((7340 + (2 * i)) + 1).toNat = 7340 + (2 * i.toNat + 1) by omega]
  rfl
theorem EN_con {g f : Nat → Int} {le j : Int} : ∀ n : Nat, (∀ q, q < 2 * n → f q = g q) → EN f le j n = EN g le j n
  | 0, _ => rfl
  | n + 1, h => by
    unfold EN
    rw [h (2 * n) (by omega), h (2 * n + 1) (by omega), EN_con n (fun q hq => h q (by omega))]
theorem EC_c {g : Nat → Int} {le j i : Int} (h : 0 ≤ i) : EC g le j (i + 1).toNat = if (g ((i * 2) + 0).toNat + g ((i * 2) + 1).toNat < le ∨ (j = 2 ∧ (3000 < g ((i * 2) + 0).toNat ∨ 3000 < g ((i * 2) + 1).toNat))) then EC g le j i.toNat else EC g le j i.toNat + (if (if j = 1 ∧ 3000 < g ((i * 2) + 0).toNat then 3000 else g ((i * 2) + 0).toNat) < (if j = 1 ∧ 3000 < g ((i * 2) + 1).toNat then 3000 else g ((i * 2) + 1).toNat) then 1 else 0) := by
  rw [show (i + 1).toNat = i.toNat + 1 by omega, show ((i * 2) + 0).toNat = 2 * i.toNat by omega, show ((i * 2) + 1).toNat = 2 * i.toNat + 1 by omega]
  rfl
theorem EC_r {f : Nat → Int} {le j i : Int} (h : 0 ≤ i) : EC (fun q => f (7340 + q)) le j (i + 1).toNat = if (f (7340 + (2 * i)).toNat + f ((7340 + (2 * i)) + 1).toNat < le ∨ (j = 2 ∧ (3000 < f (7340 + (2 * i)).toNat ∨ 3000 < f ((7340 + (2 * i)) + 1).toNat))) then EC (fun q => f (7340 + q)) le j i.toNat else EC (fun q => f (7340 + q)) le j i.toNat + (if (if j = 1 ∧ 3000 < f (7340 + (2 * i)).toNat then 3000 else f (7340 + (2 * i)).toNat) < (if j = 1 ∧ 3000 < f ((7340 + (2 * i)) + 1).toNat then 3000 else f ((7340 + (2 * i)) + 1).toNat) then 1 else 0) := by
  rw [show (i + 1).toNat = i.toNat + 1 by omega, show (7340 + (2 * i)).toNat = 7340 + 2 * i.toNat by omega, show ((7340 + (2 * i)) + 1).toNat = 7340 + (2 * i.toNat + 1) by omega]
  rfl
theorem EC_con {g f : Nat → Int} {le j : Int} : ∀ n : Nat, (∀ q, q < 2 * n → f q = g q) → EC f le j n = EC g le j n
  | 0, _ => rfl
  | n + 1, h => by
    unfold EC
    rw [h (2 * n) (by omega), h (2 * n + 1) (by omega), EC_con n (fun q hq => h q (by omega))]
def LE (k : Int) : Int := if k / 6 = 0 then 0 else if k / 6 = 1 then 100 else if k / 6 = 2 then 300 else 600
theorem LE_a {k v : Int} (hk : 0 ≤ k ∧ k ≤ 23) (hv : v = (k / 6) % 4) : ([0, 100, 300, 600] : List Int).getD v.toNat 0 = LE k := by
  subst hv
  have : ∀ q : Fin 24, ([0, 100, 300, 600] : List Int).getD (((q.val : Int) / 6) % 4).toNat 0 = LE (q.val : Int) := by decide +kernel
  have e : ((k.toNat : Nat) : Int) = k := Int.toNat_of_nonneg hk.1
  have z := this ⟨k.toNat, by omega⟩
  rw [e] at z
  exact z
/-! by coins alone -/
def CB : Nat → Nat → Nat
  | _, 0 => 1
  | 0, _ + 1 => 0
  | n + 1, i + 1 => CB n i + CB n (i + 1)
theorem CB_0 (n : Nat) : CB n 0 = 1 := by cases n <;> rfl
theorem CB_s (n i : Nat) : CB (n + 1) (i + 1) = CB n i + CB n (i + 1) := rfl
theorem CB_hi : ∀ (n i : Nat), n < i → CB n i = 0
  | 0, i + 1, _ => rfl
  | n + 1, i + 1, h => by rw [CB_s, CB_hi n i (by omega), CB_hi n (i + 1) (by omega)]
theorem CB_le : ∀ (n i : Nat), CB n i ≤ 2 ^ n
  | n, 0 => by rw [CB_0]; exact Nat.one_le_two_pow
  | 0, i + 1 => by show 0 ≤ _; exact Nat.zero_le _
  | n + 1, i + 1 => by
    have h1 := CB_le n i
    have h2 := CB_le n (i + 1)
    rw [CB_s, Nat.pow_succ]
    omega
theorem CB_40 {n i : Nat} (h : n ≤ 40) : CB n i ≤ 1099511627776 := by
  have h1 := CB_le n i
  have h2 : (2 : Nat) ^ n ≤ 2 ^ 40 := Nat.pow_le_pow_right (by decide) h
  have h3 : (2 : Nat) ^ 40 = 1099511627776 := by decide
  omega
theorem CB_m : ∀ (n i : Nat), CB n (i + 1) * (i + 1) = CB n i * (n - i)
  | 0, 0 => rfl
  | 0, i + 1 => by
    rw [CB_hi 0 (i + 2) (by omega), CB_hi 0 (i + 1) (by omega), Nat.zero_mul, Nat.zero_mul]
  | n + 1, 0 => by
    have h := CB_m n 0
    rw [CB_0] at h
    rw [CB_s, CB_0, CB_0]
    omega
  | n + 1, i + 1 => by
    have h1 := CB_m n i
    have h2 := CB_m n (i + 1)
    rw [CB_s n (i + 1), CB_s n i, Nat.add_mul, h2, Nat.add_mul]
    by_cases c : i + 1 ≤ n
    · have e1 : n + 1 - (i + 1) = (n - (i + 1)) + 1 := by omega
      have e2 : n - i = (n - (i + 1)) + 1 := by omega
      rw [e2] at h1
      rw [e1]
      have e3 : CB n (i + 1) * (i + 1 + 1) = CB n (i + 1) * (i + 1) + CB n (i + 1) := by rw [Nat.mul_add (CB n (i + 1)) (i + 1) 1, Nat.mul_one]
      rw [e3, h1, Nat.mul_add (CB n (i + 1)), Nat.mul_one]
      omega
    · rw [CB_hi n (i + 1) (by omega), show n + 1 - (i + 1) = n - i by omega, ← h1, CB_hi n (i + 1) (by omega)]
      simp
/-- the ways for c .. below i of n, added -/
def CS (n c : Nat) : Nat → Int
  | 0 => 0
  | i + 1 => CS n c i + (if c ≤ i then (CB n i : Int) else 0)
theorem CS_lo {n c : Nat} : ∀ i, i ≤ c → CS n c i = 0
  | 0, _ => rfl
  | i + 1, h => by unfold CS; rw [CS_lo i (by omega), if_neg (by omega)]; rfl
def chI (n i : Int) : Int := (CB n.toNat i.toNat : Int)
def csI (n c i : Int) : Int := CS n.toNat c.toNat i.toNat
theorem csI_s {n c i : Int} (hi : 0 ≤ i) (hc : 0 ≤ c) : csI n c (i + 1) = csI n c i + (if c ≤ i then chI n i else 0) := by
  unfold csI chI
  rw [show (i + 1).toNat = i.toNat + 1 by omega]
  show CS _ _ _ + _ = _
  congr 1
  by_cases e : c ≤ i
  · rw [if_pos e, if_pos (by omega)]
  · rw [if_neg e, if_neg (by omega)]
theorem csI_lo {n c i : Int} (h : i ≤ c) : csI n c i = 0 := CS_lo _ (by omega)
theorem chI_R {n i : Int} (hn : n ≤ 40) : 0 ≤ chI n i ∧ chI n i ≤ 1099511627776 := by
  have h := CB_40 (n := n.toNat) (i := i.toNat) (by omega)
  unfold chI
  omega
theorem chI_0 {n : Int} : chI n 0 = 1 := by unfold chI; rw [show (0 : Int).toNat = 0 from rfl, CB_0]; rfl
theorem chI_d {n i : Int} (hn : 0 ≤ n ∧ n ≤ 40) (hi : 0 ≤ i ∧ i ≤ n) : (wl (chI n i * (n - i))).tdiv (wl (i + 1)) = chI n (i + 1) := by
  have h := CB_m n.toNat i.toNat
  have e1 : chI n i * (n - i) = chI n (i + 1) * (i + 1) := by
    unfold chI
    rw [show (i + 1).toNat = i.toNat + 1 by omega, show (n - i : Int) = ((n.toNat - i.toNat : Nat) : Int) by omega, show ((i : Int) + 1) = ((i.toNat + 1 : Nat) : Int) by omega]
    exact_mod_cast h.symm
  have hb := chI_R (n := n) (i := i + 1) hn.2
  have h3 : 0 ≤ chI n (i + 1) * (i + 1) := Int.mul_nonneg hb.1 (by omega)
  have h4 : chI n (i + 1) * (i + 1) ≤ 1099511627776 * 41 := Int.mul_le_mul hb.2 (by omega) (by omega) (by decide)
  have h4' : chI n (i + 1) * (i + 1) ≤ 45079976738816 := h4
  rw [e1, wl_id (by omega) (by omega), wl_id (by omega) (by omega)]
  exact Int.mul_tdiv_cancel _ (by omega)
def RA (c n : Int) : Int := if wl (am_lshr (csI n c (n + 1) * 1000) n) < 50 then 1 else 0
/-- whether a WAY is LONG -/
def LG (g : Nat → Int) (n k : Int) : Int := if k % 2 = 0 then (if EW g (LE k) ((k / 2) % 3) n.toNat + ER g (LE k) ((k / 2) % 3) n.toNat < (EW g (LE k) ((k / 2) % 3) n.toNat - ER g (LE k) ((k / 2) % 3) n.toNat) * 10 then 1 else 0) else if EN g (LE k) ((k / 2) % 3) n.toNat = 0 then 0 else RA (EC g (LE k) ((k / 2) % 3) n.toNat) (EN g (LE k) ((k / 2) % 3) n.toNat)
def HL (g : Nat → Int) (n : Int) : Nat → Int
  | 0 => 0
  | i + 1 => HL g n i + LG g n i
theorem HL_s {g : Nat → Int} {n i : Int} (h : 0 ≤ i) : HL g n (i + 1).toNat = HL g n i.toNat + LG g n i := by
  rw [show (i + 1).toNat = i.toNat + 1 by omega]
  show _ + LG g n ((i.toNat : Nat) : Int) = _
  rw [Int.toNat_of_nonneg h]
def WY (g : Nat → Int) (n k : Int) : Int := if k < 0 ∨ 24 < k then -1 else if k < 24 then LG g n k else HL g n 24
theorem LG_con {g f : Nat → Int} {n k : Int} (h : ∀ q : Nat, (q : Int) < 2 * n → f q = g q) : LG f n k = LG g n k := by
  unfold LG
  have h' : ∀ q, q < 2 * n.toNat → f q = g q := fun q hq => h q (by omega)
  rw [ER_con _ h', EW_con _ h', EN_con _ h', EC_con _ h']
theorem HL_con {g f : Nat → Int} {n : Int} (h : ∀ q : Nat, (q : Int) < 2 * n → f q = g q) : ∀ i, HL f n i = HL g n i
  | 0 => rfl
  | i + 1 => by unfold HL; rw [HL_con h i, LG_con h]
theorem WY_con {g f : Nat → Int} {n m k : Int} (h : RW2 g f n 7340) (hm : m = n) : WY (fun q => f (7340 + q)) n k = WY g m k := by
  subst hm
  have h' : ∀ q : Nat, (q : Int) < 2 * m → (fun q => f (7340 + q)) q = g q := fun q hq => (h q hq).symm
  unfold WY
  rw [LG_con h', HL_con h']
theorem chI_hi {n i : Int} (h : n < i) (hn : 0 ≤ n) : chI n i = 0 := by
  unfold chI; rw [CB_hi _ _ (by omega)]; rfl
theorem chI_p {k i : Int} (hk : 1 ≤ k) (hi : 1 ≤ i) : chI k i = chI (k - 1) i + chI (k - 1) (i - 1) := by
  unfold chI
  have h := CB_s (k - 1).toNat (i - 1).toNat
  rw [show (k - 1).toNat + 1 = k.toNat by omega, show (i - 1).toNat + 1 = i.toNat by omega] at h
  rw [h]; omega
theorem ch_i {D : Nat → Nat → Int} {l x : Int} (h : ∀ q : Nat, (q : Int) < l → D 104 q = if q = 0 then 1 else 0) (h0 : 0 ≤ l) (h1 : l ≤ 41) (hx : x = if l.toNat = 0 then 1 else 0) : ∀ q : Nat, (q : Int) < l + 1 → u2 D 104 l.toNat x 104 q = if q = 0 then 1 else 0 := by
  intro q hq
  by_cases e : q = l.toNat
  · rw [e, u2_eq, hx]
  · rw [u2_ne (by omega)]; exact h q (by omega)
theorem ch_1 {D : Nat → Nat → Int} {l : Int} (h : ∀ q : Nat, (q : Int) < l → D 104 q = if q = 0 then 1 else 0) (hl : 42 ≤ l) : ∀ q : Nat, q < 42 → D 104 q = chI (1 - 1) q := by
  intro q hq
  rw [h q (by omega)]
  unfold chI
  cases q with
  | zero => rfl
  | succ q => rfl
theorem ch_0 {D : Nat → Nat → Int} {k : Int} (h : ∀ q : Nat, q < 42 → D 104 q = chI (k - 1) q) (hk : 1 ≤ k) (_ : 1 ≤ k) : ∀ q : Nat, q < 42 → D 104 q = if k < q then chI k q else chI (k - 1) q := by
  intro q hq
  rw [h q hq]
  split
  · rw [chI_hi (by omega) (by omega), chI_hi (by omega) (by omega)]
  · rfl
theorem ch_s {D : Nat → Nat → Int} {k i x : Int} (h : ∀ q : Nat, q < 42 → D 104 q = if i < q then chI k q else chI (k - 1) q) (hk : 1 ≤ k ∧ k ≤ 40) (hi : 1 ≤ i ∧ i ≤ k) (hx : x = wl (D 104 i.toNat + D 104 (i - 1).toNat)) : ∀ q : Nat, q < 42 → u2 D 104 i.toNat x 104 q = if i + (-1) < q then chI k q else chI (k - 1) q := by
  intro q hq
  by_cases e : q = i.toNat
  · have e1 : ((i.toNat : Nat) : Int) = i := Int.toNat_of_nonneg (by omega)
    have e2 : (((i - 1).toNat : Nat) : Int) = i - 1 := Int.toNat_of_nonneg (by omega)
    have b1 := chI_R (n := k - 1) (i := i) (by omega)
    have b2 := chI_R (n := k - 1) (i := i - 1) (by omega)
    rw [e, u2_eq, hx, h _ (by omega), h _ (by omega), if_neg (by omega), if_neg (by omega), if_pos (by omega), e1, e2, wl_id (by omega) (by omega), chI_p (k := k) (i := i) (by omega) (by omega)]
  · rw [u2_ne (by omega), h q hq]
    by_cases c : i < q
    · rw [if_pos c, if_pos (by omega)]
    · rw [if_neg c, if_neg (by omega)]
theorem ch_z {D : Nat → Nat → Int} {k i : Int} (h : ∀ q : Nat, q < 42 → D 104 q = if i < q then chI k q else chI (k - 1) q) (hi : i ≤ 0) (h0 : 0 ≤ i) : ∀ q : Nat, q < 42 → D 104 q = chI ((k + 1) - 1) q := by
  intro q hq
  rw [h q hq, show k + 1 - 1 = k by omega]
  by_cases c : i < q
  · rw [if_pos c]
  · rw [if_neg c, show ((q : Nat) : Int) = 0 by omega, chI_0, chI_0]
theorem ch_e {D : Nat → Nat → Int} {k n : Int} (h : ∀ q : Nat, q < 42 → D 104 q = chI (k - 1) q) (e : k - 1 = n) : ∀ q : Nat, q < 42 → D 104 q = chI n q := by
  subst e; exact h
theorem sq_31 (l n : Int) (h0 : 0 ≤ l ∧ l ≤ 32) (h1 : l * l ≤ n) (h2 : n ≤ 999) : l ≤ 31 := by
  by_cases e : l = 32
  · subst e; omega
  · omega
