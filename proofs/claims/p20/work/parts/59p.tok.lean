/-! TOKENS of a TEXT, out of its bytes alone: b the bytes, n how many -/
def pB (c : Int) : Bool := decide (c = 32 ∨ c = 10)
def pL (c : Int) : Bool := decide ((97 ≤ c ∧ c ≤ 122) ∨ (65 ≤ c ∧ c ≤ 90))
def pD (c : Int) : Bool := decide (48 ≤ c ∧ c ≤ 57)
def pS (c : Int) : Bool := decide (c = 59 ∨ c = 43 ∨ c = 45 ∨ c = 42 ∨ c = 47 ∨ c = 40 ∨ c = 41 ∨ c = 60 ∨ c = 61 ∨ c = 62)
theorem pBt {c d : Int} (e : c = d) (h : c = 32 ∨ c = 10) : pB d = true := by subst e; exact decide_eq_true h
theorem pBf {c d : Int} (e : c = d) (h : ¬ (c = 32 ∨ c = 10)) : pB d = false := by subst e; exact decide_eq_false h
theorem pLt {c d : Int} (e : c = d) (h : (97 ≤ c ∧ c ≤ 122) ∨ (65 ≤ c ∧ c ≤ 90)) : pL d = true := by subst e; exact decide_eq_true h
theorem pLf {c d : Int} (e : c = d) (h : ¬ ((97 ≤ c ∧ c ≤ 122) ∨ (65 ≤ c ∧ c ≤ 90))) : pL d = false := by subst e; exact decide_eq_false h
theorem pDt {c d : Int} (e : c = d) (h : 48 ≤ c ∧ c ≤ 57) : pD d = true := by subst e; exact decide_eq_true h
theorem pDf {c d : Int} (e : c = d) (h : ¬ (48 ≤ c ∧ c ≤ 57)) : pD d = false := by subst e; exact decide_eq_false h
theorem pSt {c d : Int} (e : c = d) (h : c = 59 ∨ c = 43 ∨ c = 45 ∨ c = 42 ∨ c = 47 ∨ c = 40 ∨ c = 41 ∨ c = 60 ∨ c = 61 ∨ c = 62) : pS d = true := by subst e; exact decide_eq_true h
theorem pSf {c d : Int} (e : c = d) (h : ¬ (c = 59 ∨ c = 43 ∨ c = 45 ∨ c = 42 ∨ c = 47 ∨ c = 40 ∨ c = 41 ∨ c = 60 ∨ c = 61 ∨ c = 62)) : pS d = false := by subst e; exact decide_eq_false h
/-- the bytes, nothing beyond them -/
def mB (g : Nat → Int) (n : Int) (j : Nat) : Int := if (j : Int) < n then g j else 0
theorem mB_in {g : Nat → Int} {n p : Int} (h : p < n) (h0 : 0 ≤ p) : mB g n p.toNat = g p.toNat := by unfold mB; rw [if_pos (by omega)]
theorem mB_out {g : Nat → Int} {n p : Int} (h : n ≤ p) (h0 : 0 ≤ p) : mB g n p.toNat = 0 := by unfold mB; rw [if_neg (by omega)]
theorem mB_con {g g' : Nat → Int} {n n' : Int} (h : ∀ j : Nat, (j : Int) < n → g j = g' j) (hn : n' = n) : mB g n = mB g' n' := by
  subst hn
  funext j
  unfold mB
  by_cases c : (j : Int) < n'
  · rw [if_pos c, if_pos c]; exact h j c
  · rw [if_neg c, if_neg c]
/-- the first place from p on that has no such byte -/
def rn (P : Int → Bool) (b : Nat → Int) (n : Nat) : Nat → Nat → Nat
  | 0, p => p
  | k + 1, p => bif Nat.blt p n && P (b p) then rn P b n k (p + 1) else p
def RN (P : Int → Bool) (b : Nat → Int) (n p : Nat) : Nat := rn P b n (n - p) p
theorem RN_s {P : Int → Bool} {b : Nat → Int} {n p : Nat} (h : p < n) (hp : P (b p) = true) : RN P b n p = RN P b n (p + 1) := by
  unfold RN
  rw [show n - p = (n - (p + 1)) + 1 by omega]
  show (bif Nat.blt p n && P (b p) then _ else _) = _
  rw [Nat.blt_eq.mpr h, hp]; rfl
theorem RN_e {P : Int → Bool} {b : Nat → Int} {n p : Nat} (h : n ≤ p ∨ P (b p) = false) : RN P b n p = p := by
  unfold RN
  cases e : n - p with
  | zero => rfl
  | succ k =>
    show (bif Nat.blt p n && P (b p) then _ else _) = _
    rcases h with h | h
    · omega
    · rw [h, Bool.and_false]; rfl
theorem RN_R {P : Int → Bool} {b : Nat → Int} {n : Nat} : ∀ (k p : Nat), n - p = k → p ≤ n → p ≤ RN P b n p ∧ RN P b n p ≤ n ∧ (RN P b n p < n → P (b (RN P b n p)) = false)
  | 0, p, e, h => by
    rw [RN_e (.inl (by omega))]
    exact ⟨Nat.le_refl _, h, fun z => by omega⟩
  | k + 1, p, e, h => by
    rcases hp : P (b p) with _ | _
    · rw [RN_e (.inr hp)]; exact ⟨Nat.le_refl _, h, fun _ => hp⟩
    · rw [RN_s (by omega) hp]
      have z := RN_R (P := P) (b := b) (n := n) k (p + 1) (by omega) (by omega)
      exact ⟨by omega, z.2.1, z.2.2⟩
/-- in a loop: one place on -/
theorem RN_st {P : Int → Bool} {b : Nat → Int} {n l : Int} {x : Nat} (h : x = RN P b n.toNat l.toNat) (h0 : 0 ≤ l) (h1 : l < n) (hp : P (b l.toNat) = true) : x = RN P b n.toNat (l + 1).toNat := by
  rw [h, RN_s (by omega) hp, show (l + 1).toNat = l.toNat + 1 by omega]
theorem RN_fi {P : Int → Bool} {b : Nat → Int} {n l : Int} {x : Nat} (h : x = RN P b n.toNat l.toNat) (h0 : 0 ≤ l) (he : n ≤ l ∨ P (b l.toNat) = false) : l = (x : Int) := by
  rw [h, RN_e (he.imp (fun z => by omega) id)]; omega
/-- where the token that begins at p ends -/
def TE (b : Nat → Int) (n p : Nat) : Nat := if pL (b p) = true then RN pL b n (p + 1) else if pD (b p) = true then RN pD b n (p + 1) else p + 1
theorem TE_R {b : Nat → Int} {n p : Nat} (h : p < n) : p + 1 ≤ TE b n p ∧ TE b n p ≤ n := by
  unfold TE
  split
  · have := RN_R (P := pL) (b := b) (n := n) _ (p + 1) rfl (by omega); omega
  · split
    · have := RN_R (P := pD) (b := b) (n := n) _ (p + 1) rfl (by omega); omega
    · omega
theorem TE_l {b : Nat → Int} {n p l : Int} (hp : 0 ≤ p) (h : pL (b p.toNat) = true) (hi : RN pL b n.toNat (p + 1).toNat = RN pL b n.toNat l.toNat) (h0 : 0 ≤ l) (he : n ≤ l ∨ pL (b l.toNat) = false) : l = ((TE b n.toNat p.toNat : Nat) : Int) := by
  unfold TE; rw [if_pos h, show p.toNat + 1 = (p + 1).toNat by omega]
  exact RN_fi hi h0 he
theorem TE_d {b : Nat → Int} {n p l : Int} (hp : 0 ≤ p) (hl : pL (b p.toNat) = false) (h : pD (b p.toNat) = true) (hi : RN pD b n.toNat (p + 1).toNat = RN pD b n.toNat l.toNat) (h0 : 0 ≤ l) (he : n ≤ l ∨ pD (b l.toNat) = false) : l = ((TE b n.toNat p.toNat : Nat) : Int) := by
  unfold TE; rw [if_neg (by rw [hl]; decide), if_pos h, show p.toNat + 1 = (p + 1).toNat by omega]
  exact RN_fi hi h0 he
theorem TE_1 {b : Nat → Int} {n p : Int} (hp : 0 ≤ p) (hl : pL (b p.toNat) = false) (h : pD (b p.toNat) = false) : p + 1 = ((TE b n.toNat p.toNat : Nat) : Int) := by
  unfold TE; rw [if_neg (by rw [hl]; decide), if_neg (by rw [h]; decide)]; omega
/-- whether the bytes from p on are these -/
def wq : List Int → (Nat → Int) → Nat → Bool
  | [], _, _ => true
  | c :: w, b, p => decide (b p = c) && wq w b (p + 1)
theorem wq_iff : ∀ (w : List Int) (b : Nat → Int) (p : Nat), wq w b p = true ↔ ∀ j : Nat, j < w.length → b (p + j) = w.getD j 0
  | [], b, p => ⟨fun _ j h => absurd h (Nat.not_lt_zero _), fun _ => rfl⟩
  | c :: w, b, p => by
    show (decide (b p = c) && wq w b (p + 1)) = true ↔ _
    rw [Bool.and_eq_true, decide_eq_true_eq, wq_iff w b (p + 1)]
    constructor
    · rintro ⟨h1, h2⟩ j hj
      cases j with
      | zero => exact h1
      | succ j => rw [show p + (j + 1) = p + 1 + j by omega]; exact h2 j (Nat.lt_of_succ_lt_succ hj)
    · intro h
      refine ⟨h 0 (Nat.succ_pos _), fun j hj => ?_⟩
      rw [show p + 1 + j = p + (j + 1) by omega]
      exact h (j + 1) (Nat.succ_lt_succ hj)
/-- whether a word stands from p to q -/
def wm (w : List Int) (b : Nat → Int) (p q : Nat) : Int := bif Nat.beq w.length (q - p) && wq w b p then 1 else 0
theorem wm_1 {w : List Int} {b : Nat → Int} {p q : Nat} (h1 : w.length = q - p) (h2 : ∀ j : Nat, j < w.length → b (p + j) = w.getD j 0) : wm w b p q = 1 := by
  unfold wm
  rw [(wq_iff w b p).mpr h2, h1, Nat.beq_refl]; rfl
theorem wm_0 {w : List Int} {b : Nat → Int} {p q : Nat} (h : ¬ (w.length = q - p ∧ ∀ j : Nat, j < w.length → b (p + j) = w.getD j 0)) : wm w b p q = 0 := by
  unfold wm
  cases e : Nat.beq w.length (q - p) && wq w b p with
  | false => rfl
  | true =>
    rw [Bool.and_eq_true] at e
    exact absurd ⟨Nat.eq_of_beq_eq_true e.1, (wq_iff w b p).mp e.2⟩ h
theorem wm_01 (w : List Int) (b : Nat → Int) (p q : Nat) : 0 ≤ wm w b p q ∧ wm w b p q ≤ 1 := by
  unfold wm
  cases Nat.beq w.length (q - p) && wq w b p <;> decide
/-- the first word that stands from p to q, counted from k on; -1: none -/
def wi : List (List Int) → (Nat → Int) → Nat → Nat → Int → Int
  | [], _, _, _, _ => -1
  | w :: ws, b, p, q, k => if wm w b p q = 1 then k else wi ws b p q (k + 1)
theorem wi_h {w : List Int} {ws : List (List Int)} {b : Nat → Int} {p q : Nat} {k : Int} (h : wm w b p q = 1) : wi (w :: ws) b p q k = k := by
  show (if _ then _ else _) = _
  rw [if_pos h]
theorem wi_n {w : List Int} {ws : List (List Int)} {b : Nat → Int} {p q : Nat} {k : Int} (h : wm w b p q = 0) : wi (w :: ws) b p q k = wi ws b p q (k + 1) := by
  show (if _ then _ else _) = _
  rw [if_neg (by omega)]
def wS : List (List Int) := [[99, 111, 109, 101], [108, 101, 97, 118, 101], [112, 117, 116], [109, 111, 118, 101], [116, 101, 108, 108], [108, 105, 102, 116], [119, 101, 97, 114], [100, 111, 102, 102], [115, 110, 97, 112]]
def wL : List (List Int) := [[114, 117, 108, 101], [112, 117, 108, 108], [119, 104, 101, 110], [111, 114], [97, 110, 100], [110, 111, 116], [109, 111, 110, 116, 104, 115], [119, 111, 114, 100, 115], [104, 111, 119], [109, 111, 118, 101, 115], [115, 111, 114, 116], [112, 105, 99, 116, 117, 114, 101]]
def wW (s : Int) : List (List Int) := if s = 0 then wS else wL
/-- what kind of token begins at p: 0 the end, 1 none, 2 a NUMBER, a sign its byte, 1000 + k a KEYWORD -/
def KD (s : Int) (b : Nat → Int) (n p : Nat) : Int :=
  if n ≤ p then 0
  else if pD (b p) = true then (if TE b n p - p ≤ 4 then 2 else 1)
  else if pL (b p) = true then (if wi (wW s) b p (TE b n p) 0 = -1 then 1 else 1000 + wi (wW s) b p (TE b n p) 0)
  else if pS (b p) = true then b p else 1
/-- a NUMBER of k digits -/
def nv (b : Nat → Int) (p : Nat) : Nat → Int
  | 0 => 0
  | k + 1 => 10 * nv b p k + b (p + k) - 48
theorem nv_st {b : Nat → Int} {p l x v : Int} (h : x = nv b p.toNat (l - p).toNat) (hv : v = b l.toNat) (hp : 0 ≤ p) (hl : p ≤ l) : 10 * x + v - 48 = nv b p.toNat (l + 1 - p).toNat := by
  rw [show (l + 1 - p).toNat = (l - p).toNat + 1 by omega]
  show _ = 10 * nv b p.toNat (l - p).toNat + b (p.toNat + (l - p).toNat) - 48
  rw [h, hv, show p.toNat + (l - p).toNat = l.toNat by omega]
def VL (b : Nat → Int) (n p : Nat) : Int := nv b p (TE b n p - p)
/-- where the i-th token begins -/
def TP (b : Nat → Int) (n : Nat) : Nat → Nat
  | 0 => RN pB b n 0
  | i + 1 => if TP b n i < n then RN pB b n (TE b n (TP b n i)) else n
/-! the class's reading of words -/
theorem i2c_id {x : Int} (h : 0 ≤ x ∧ x ≤ 255) : am_i2c x = x := by
  have key : ∀ j : Fin 256, am_i2c (j.val : Int) = (j.val : Int) := by decide +kernel
  have e : ((x.toNat : Nat) : Int) = x := Int.toNat_of_nonneg h.1
  have z := key ⟨x.toNat, by omega⟩
  rw [e] at z; exact z
theorem ic_id {x : Int} (h : 0 ≤ x ∧ x ≤ 127) : am_i2c (am_and x 255) = x := by
  have key : ∀ j : Fin 128, am_i2c (am_and (j.val : Int) 255) = (j.val : Int) := by decide +kernel
  have e : ((x.toNat : Nat) : Int) = x := Int.toNat_of_nonneg h.1
  have z := key ⟨x.toNat, by omega⟩
  rw [e] at z; exact z
/-- from p3 to l stands what the text r has from p2 on -/
def IS (r : Nat) (len : Int) (b : Nat → Int) (p2 p3 l : Int) : Prop := ∀ j : Nat, (j : Int) < l - p3 → p2 + j < len ∧ (am_Sby.getD r []).getD (p2.toNat + j) 0 = b (p3.toNat + j)
theorem IS_0 {r : Nat} {len p2 p3 l : Int} {b : Nat → Int} (h : l ≤ p3) : IS r len b p2 p3 l := fun j hj => by omega
theorem IS_s {r : Nat} {len p2 p3 l c d : Int} {b : Nat → Int} (h : IS r len b p2 p3 l) (h0 : 0 ≤ p2 ∧ 0 ≤ p3) (hl : p3 ≤ l) (h1 : p2 + l - p3 < len) (hc : c = (am_Sby.getD r []).getD (p2 + l - p3).toNat 0) (hd : d = b l.toNat) (e : c = d) : IS r len b p2 p3 (l + 1) := by
  intro j hj
  by_cases z : (j : Int) < l - p3
  · exact h j z
  · have e1 : p2.toNat + j = (p2 + l - p3).toNat := by omega
    have e2 : p3.toNat + j = l.toNat := by omega
    refine ⟨by omega, ?_⟩
    rw [e1, e2, ← hc, ← hd, e]
theorem IS_m {r : Nat} {len p2 p3 l m : Int} {b : Nat → Int} (h : IS r len b p2 p3 l) (hm : m ≤ l) : IS r len b p2 p3 m := fun j hj => h j (by omega)
theorem IS_f1 {r : Nat} {len p2 p3 p4 l : Int} {b : Nat → Int} (hl : p3 ≤ l) (h4 : l < p4) (h1 : len ≤ p2 + l - p3) : ¬ IS r len b p2 p3 p4 := fun h => by
  have := (h (l - p3).toNat (by omega)).1; omega
theorem IS_f2 {r : Nat} {len p2 p3 p4 l c d : Int} {b : Nat → Int} (hl : p3 ≤ l) (h4 : l < p4) (h0 : 0 ≤ p2 ∧ 0 ≤ p3) (hg : 0 ≤ p2 + l - p3) (hc : c = (am_Sby.getD r []).getD (p2 + l - p3).toNat 0) (hd : d = b l.toNat) (e : ¬ c = d) : ¬ IS r len b p2 p3 p4 := fun h => by
  have z := (h (l - p3).toNat (by omega)).2
  rw [show p2.toNat + (l - p3).toNat = (p2 + l - p3).toNat by omega, show p3.toNat + (l - p3).toNat = l.toNat by omega, ← hc, ← hd] at z
  exact e z
/-- how many words have ended ahead of a place of the text 0, and where the last one began -/
def nb0 : List Int := [0, 0, 0, 0, 0, 1, 1, 1, 1, 1, 1, 2, 2, 2, 2, 3, 3, 3, 3, 3, 4, 4, 4, 4, 4, 5, 5, 5, 5, 5, 6, 6, 6, 6, 6, 7, 7, 7, 7, 7, 8, 8, 8, 8, 8, 9]
def sb0 : List Int := [0, 0, 0, 0, 0, 5, 5, 5, 5, 5, 5, 11, 11, 11, 11, 15, 15, 15, 15, 15, 20, 20, 20, 20, 20, 25, 25, 25, 25, 25, 30, 30, 30, 30, 30, 35, 35, 35, 35, 35, 40, 40, 40, 40, 40, 45]
theorem W0_t : ∀ i : Fin 45, (¬ (am_Sby.getD 0 []).getD i.val 0 = 32 → nb0.getD (i.val + 1) 0 = nb0.getD i.val 0 ∧ sb0.getD (i.val + 1) 0 = sb0.getD i.val 0) ∧ ((am_Sby.getD 0 []).getD i.val 0 = 32 → nb0.getD (i.val + 1) 0 = nb0.getD i.val 0 + 1 ∧ sb0.getD (i.val + 1) 0 = (i.val : Int) + 1 ∧ wS.drop (nb0.getD i.val 0).toNat = (wS.getD (nb0.getD i.val 0).toNat []) :: wS.drop ((nb0.getD i.val 0).toNat + 1) ∧ (((wS.getD (nb0.getD i.val 0).toNat []).length : Nat) : Int) = (i.val : Int) - sb0.getD i.val 0 ∧ (List.range (wS.getD (nb0.getD i.val 0).toNat []).length).all (fun j => decide ((am_Sby.getD 0 []).getD ((sb0.getD i.val 0).toNat + j) 0 = (wS.getD (nb0.getD i.val 0).toNat []).getD j 0)) = true ∧ 0 ≤ nb0.getD i.val 0 ∧ 0 ≤ sb0.getD i.val 0 ∧ sb0.getD i.val 0 ≤ (i.val : Int) ∧ nb0.getD i.val 0 ≤ 11) := by decide +kernel
theorem W0_n {i c : Int} (hi : 0 ≤ i ∧ i < 45) (hc : c = (am_Sby.getD 0 []).getD i.toNat 0) (h : ¬ c = 32) : nb0.getD (i + 1).toNat 0 = nb0.getD i.toNat 0 ∧ sb0.getD (i + 1).toNat 0 = sb0.getD i.toNat 0 := by
  rw [show (i + 1).toNat = i.toNat + 1 by omega]
  exact (W0_t ⟨i.toNat, by omega⟩).1 (by rw [hc] at h; exact h)
theorem W0_b {i c : Int} (hi : 0 ≤ i ∧ i < 45) (hc : c = (am_Sby.getD 0 []).getD i.toNat 0) (h : c = 32) : nb0.getD (i + 1).toNat 0 = nb0.getD i.toNat 0 + 1 ∧ sb0.getD (i + 1).toNat 0 = i + 1 ∧ nb0.getD i.toNat 0 ≤ 11 ∧ 0 ≤ nb0.getD i.toNat 0 := by
  have z := (W0_t ⟨i.toNat, by omega⟩).2 (by rw [hc] at h; exact h)
  rw [show (i + 1).toNat = i.toNat + 1 by omega]
  refine ⟨z.1, ?_, z.2.2.2.2.2.2.2.2, z.2.2.2.2.2.1⟩
  have z2 := z.2.1
  have e : ((i.toNat : Nat) : Int) = i := Int.toNat_of_nonneg hi.1
  rw [e] at z2; exact z2
theorem W0_m {i c k st p q : Int} {b : Nat → Int} {v : Int} (hi : 0 ≤ i ∧ i < 45) (hc : c = (am_Sby.getD 0 []).getD i.toNat 0) (h : c = 32) (e4 : k = nb0.getD i.toNat 0) (e5 : st = sb0.getD i.toNat 0) (hpq : 0 ≤ p ∧ p ≤ q) (hn : v = wi (wS.drop k.toNat) b p.toNat q.toNat k) : (i - st = q - p → IS 0 45 b st p q → k = v) ∧ (¬ (i - st = q - p) ∨ ¬ IS 0 45 b st p q → v = wi (wS.drop (k + 1).toNat) b p.toNat q.toNat (k + 1)) := by
  have z := (W0_t ⟨i.toNat, by omega⟩).2 (by rw [hc] at h; exact h)
  dsimp only at z
  rw [← e4, ← e5, Int.toNat_of_nonneg hi.1] at z
  obtain ⟨-, -, z1, z2, z3, z4, z5, z6, -⟩ := z
  have z3' : ∀ j, j < (wS.getD k.toNat []).length → (am_Sby.getD 0 []).getD (st.toNat + j) 0 = (wS.getD k.toNat []).getD j 0 := fun j hj => of_decide_eq_true (List.all_eq_true.mp z3 j (List.mem_range.mpr hj))
  rw [z1] at hn
  constructor
  · intro h1 h2
    rw [wi_h (wm_1 (by omega) (fun j hj => by rw [← z3' j hj]; exact (h2 j (by omega)).2.symm))] at hn
    exact hn.symm
  · intro h1
    rw [wi_n (wm_0 (fun y => ?_))] at hn
    · rw [show (k + 1).toNat = k.toNat + 1 by omega]; exact hn
    · rcases h1 with h1 | h1
      · exact h1 (by have := y.1; omega)
      · exact h1 (fun j hj => ⟨by omega, by rw [z3' j (by have := y.1; omega)]; exact (y.2 j (by have := y.1; omega)).symm⟩)
/-- how many words have ended ahead of a place of the text 1, and where the last one began -/
def nb1 : List Int := [0, 0, 0, 0, 0, 1, 1, 1, 1, 1, 2, 2, 2, 2, 2, 3, 3, 3, 4, 4, 4, 4, 5, 5, 5, 5, 6, 6, 6, 6, 6, 6, 6, 7, 7, 7, 7, 7, 7, 8, 8, 8, 8, 9, 9, 9, 9, 9, 9, 10, 10, 10, 10, 10, 11, 11, 11, 11, 11, 11, 11, 11, 12]
def sb1 : List Int := [0, 0, 0, 0, 0, 5, 5, 5, 5, 5, 10, 10, 10, 10, 10, 15, 15, 15, 18, 18, 18, 18, 22, 22, 22, 22, 26, 26, 26, 26, 26, 26, 26, 33, 33, 33, 33, 33, 33, 39, 39, 39, 39, 43, 43, 43, 43, 43, 43, 49, 49, 49, 49, 49, 54, 54, 54, 54, 54, 54, 54, 54, 62]
theorem W1_t : ∀ i : Fin 62, (¬ (am_Sby.getD 1 []).getD i.val 0 = 32 → nb1.getD (i.val + 1) 0 = nb1.getD i.val 0 ∧ sb1.getD (i.val + 1) 0 = sb1.getD i.val 0) ∧ ((am_Sby.getD 1 []).getD i.val 0 = 32 → nb1.getD (i.val + 1) 0 = nb1.getD i.val 0 + 1 ∧ sb1.getD (i.val + 1) 0 = (i.val : Int) + 1 ∧ wL.drop (nb1.getD i.val 0).toNat = (wL.getD (nb1.getD i.val 0).toNat []) :: wL.drop ((nb1.getD i.val 0).toNat + 1) ∧ (((wL.getD (nb1.getD i.val 0).toNat []).length : Nat) : Int) = (i.val : Int) - sb1.getD i.val 0 ∧ (List.range (wL.getD (nb1.getD i.val 0).toNat []).length).all (fun j => decide ((am_Sby.getD 1 []).getD ((sb1.getD i.val 0).toNat + j) 0 = (wL.getD (nb1.getD i.val 0).toNat []).getD j 0)) = true ∧ 0 ≤ nb1.getD i.val 0 ∧ 0 ≤ sb1.getD i.val 0 ∧ sb1.getD i.val 0 ≤ (i.val : Int) ∧ nb1.getD i.val 0 ≤ 11) := by decide +kernel
theorem W1_n {i c : Int} (hi : 0 ≤ i ∧ i < 62) (hc : c = (am_Sby.getD 1 []).getD i.toNat 0) (h : ¬ c = 32) : nb1.getD (i + 1).toNat 0 = nb1.getD i.toNat 0 ∧ sb1.getD (i + 1).toNat 0 = sb1.getD i.toNat 0 := by
  rw [show (i + 1).toNat = i.toNat + 1 by omega]
  exact (W1_t ⟨i.toNat, by omega⟩).1 (by rw [hc] at h; exact h)
theorem W1_b {i c : Int} (hi : 0 ≤ i ∧ i < 62) (hc : c = (am_Sby.getD 1 []).getD i.toNat 0) (h : c = 32) : nb1.getD (i + 1).toNat 0 = nb1.getD i.toNat 0 + 1 ∧ sb1.getD (i + 1).toNat 0 = i + 1 ∧ nb1.getD i.toNat 0 ≤ 11 ∧ 0 ≤ nb1.getD i.toNat 0 := by
  have z := (W1_t ⟨i.toNat, by omega⟩).2 (by rw [hc] at h; exact h)
  rw [show (i + 1).toNat = i.toNat + 1 by omega]
  refine ⟨z.1, ?_, z.2.2.2.2.2.2.2.2, z.2.2.2.2.2.1⟩
  have z2 := z.2.1
  have e : ((i.toNat : Nat) : Int) = i := Int.toNat_of_nonneg hi.1
  rw [e] at z2; exact z2
theorem W1_m {i c k st p q : Int} {b : Nat → Int} {v : Int} (hi : 0 ≤ i ∧ i < 62) (hc : c = (am_Sby.getD 1 []).getD i.toNat 0) (h : c = 32) (e4 : k = nb1.getD i.toNat 0) (e5 : st = sb1.getD i.toNat 0) (hpq : 0 ≤ p ∧ p ≤ q) (hn : v = wi (wL.drop k.toNat) b p.toNat q.toNat k) : (i - st = q - p → IS 1 62 b st p q → k = v) ∧ (¬ (i - st = q - p) ∨ ¬ IS 1 62 b st p q → v = wi (wL.drop (k + 1).toNat) b p.toNat q.toNat (k + 1)) := by
  have z := (W1_t ⟨i.toNat, by omega⟩).2 (by rw [hc] at h; exact h)
  dsimp only at z
  rw [← e4, ← e5, Int.toNat_of_nonneg hi.1] at z
  obtain ⟨-, -, z1, z2, z3, z4, z5, z6, -⟩ := z
  have z3' : ∀ j, j < (wL.getD k.toNat []).length → (am_Sby.getD 1 []).getD (st.toNat + j) 0 = (wL.getD k.toNat []).getD j 0 := fun j hj => of_decide_eq_true (List.all_eq_true.mp z3 j (List.mem_range.mpr hj))
  rw [z1] at hn
  constructor
  · intro h1 h2
    rw [wi_h (wm_1 (by omega) (fun j hj => by rw [← z3' j hj]; exact (h2 j (by omega)).2.symm))] at hn
    exact hn.symm
  · intro h1
    rw [wi_n (wm_0 (fun y => ?_))] at hn
    · rw [show (k + 1).toNat = k.toNat + 1 by omega]; exact hn
    · rcases h1 with h1 | h1
      · exact h1 (by have := y.1; omega)
      · exact h1 (fun j hj => ⟨by omega, by rw [z3' j (by have := y.1; omega)]; exact (y.2 j (by have := y.1; omega)).symm⟩)
/-! kinds -/
theorem SGN_1 {x v : Int} (h : am_i2b x = (am_Sby.getD 2 []).getD v.toNat 0) (hx : 0 ≤ x ∧ x ≤ 255) (hv : 0 ≤ v ∧ v ≤ 9) : x = 59 ∨ x = 43 ∨ x = 45 ∨ x = 42 ∨ x = 47 ∨ x = 40 ∨ x = 41 ∨ x = 60 ∨ x = 61 ∨ x = 62 := by
  have key : ∀ a : Fin 256, ∀ c : Fin 10, am_i2b (a.val : Int) = (am_Sby.getD 2 []).getD c.val 0 → (a.val : Int) = 59 ∨ (a.val : Int) = 43 ∨ (a.val : Int) = 45 ∨ (a.val : Int) = 42 ∨ (a.val : Int) = 47 ∨ (a.val : Int) = 40 ∨ (a.val : Int) = 41 ∨ (a.val : Int) = 60 ∨ (a.val : Int) = 61 ∨ (a.val : Int) = 62 := by decide +kernel
  have e : ((x.toNat : Nat) : Int) = x := Int.toNat_of_nonneg hx.1
  have z := key ⟨x.toNat, by omega⟩ ⟨v.toNat, by omega⟩
  rw [e] at z
  exact z h
theorem SGN_0 {x : Int} (hx : 0 ≤ x ∧ x ≤ 255) (h : ∀ j : Nat, j < 10 → ¬ (am_Sby.getD 2 []).getD j 0 = am_i2b x) : ¬ (x = 59 ∨ x = 43 ∨ x = 45 ∨ x = 42 ∨ x = 47 ∨ x = 40 ∨ x = 41 ∨ x = 60 ∨ x = 61 ∨ x = 62) := by
  have key : ∀ a : Fin 256, ((a.val : Int) = 59 ∨ (a.val : Int) = 43 ∨ (a.val : Int) = 45 ∨ (a.val : Int) = 42 ∨ (a.val : Int) = 47 ∨ (a.val : Int) = 40 ∨ (a.val : Int) = 41 ∨ (a.val : Int) = 60 ∨ (a.val : Int) = 61 ∨ (a.val : Int) = 62) → ∃ c : Fin 10, (am_Sby.getD 2 []).getD c.val 0 = am_i2b (a.val : Int) := by decide +kernel
  have e : ((x.toNat : Nat) : Int) = x := Int.toNat_of_nonneg hx.1
  have z := key ⟨x.toNat, by omega⟩
  rw [e] at z
  intro y
  obtain ⟨c, hc⟩ := z y
  exact h c.val c.isLt hc
theorem NI_s {l c : Int} (h : ∀ j : Nat, (j : Int) < l → ¬ (am_Sby.getD 2 []).getD j 0 = c) (h0 : 0 ≤ l) (hn : ¬ (am_Sby.getD 2 []).getD l.toNat 0 = c) : ∀ j : Nat, (j : Int) < l + 1 → ¬ (am_Sby.getD 2 []).getD j 0 = c := by
  intro j hj
  by_cases e : (j : Int) < l
  · exact h j e
  · rw [show j = l.toNat by omega]; exact hn
theorem wi_R : ∀ (ws : List (List Int)) (b : Nat → Int) (p q : Nat) (k : Int), 0 ≤ k → wi ws b p q k = -1 ∨ 0 ≤ wi ws b p q k
  | [], _, _, _, _, _ => .inl rfl
  | w :: ws, b, p, q, k, h => by
    unfold wi
    split
    · exact .inr h
    · exact wi_R ws b p q (k + 1) (by omega)
theorem KD_d {s : Int} {b : Nat → Int} {n p : Nat} (h : p < n) (hd : pD (b p) = true) : KD s b n p = if TE b n p - p ≤ 4 then 2 else 1 := by
  unfold KD; rw [if_neg (by omega), if_pos hd]
theorem KD_l {s : Int} {b : Nat → Int} {n p : Nat} {W : List (List Int)} (hW : wW s = W) (h : p < n) (hd : pD (b p) = false) (hl : pL (b p) = true) : KD s b n p = if wi W b p (TE b n p) 0 = -1 then 1 else 1000 + wi W b p (TE b n p) 0 := by
  subst hW; unfold KD; rw [if_neg (by omega), if_neg (by rw [hd]; decide), if_pos hl]
theorem KD_o {s : Int} {b : Nat → Int} {n p : Nat} (h : p < n) (hd : pD (b p) = false) (hl : pL (b p) = false) : KD s b n p = if pS (b p) = true then b p else 1 := by
  unfold KD; rw [if_neg (by omega), if_neg (by rw [hd]; decide), if_neg (by rw [hl]; decide)]
theorem KD_e {s : Int} {b : Nat → Int} {n p : Nat} (h : n ≤ p) : KD s b n p = 0 := by unfold KD; rw [if_pos h]
theorem pS_R {c : Int} (h : pS c = true) : 40 ≤ c ∧ c ≤ 62 := by
  have := of_decide_eq_true h; omega
theorem KD_2 {s : Int} {b : Nat → Int} {n p : Nat} (h : KD s b n p = 2) : p < n ∧ pD (b p) = true ∧ TE b n p - p ≤ 4 := by
  by_cases h0 : n ≤ p
  · rw [KD_e h0] at h; cases h
  · cases hd : pD (b p) with
    | true =>
      rw [KD_d (by omega) hd] at h
      by_cases h1 : TE b n p - p ≤ 4
      · exact ⟨by omega, rfl, h1⟩
      · rw [if_neg h1] at h; cases h
    | false =>
      cases hl : pL (b p) with
      | true =>
        rw [KD_l rfl (by omega) hd hl] at h
        have := wi_R (wW s) b p (TE b n p) 0 (by decide)
        split at h <;> omega
      | false =>
        rw [KD_o (by omega) hd hl] at h
        split at h
        · have := pS_R ‹_›; omega
        · cases h
theorem RN_all {P : Int → Bool} {b : Nat → Int} {n : Nat} : ∀ (k p : Nat), n - p = k → ∀ q, p ≤ q → q < RN P b n p → P (b q) = true
  | 0, p, e, q, h1, h2 => by rw [RN_e (.inl (by omega))] at h2; omega
  | k + 1, p, e, q, h1, h2 => by
    rcases hp : P (b p) with _ | _
    · rw [RN_e (.inr hp)] at h2; omega
    · by_cases c : q = p
      · rw [c]; exact hp
      · rw [RN_s (by omega) hp] at h2
        exact RN_all k (p + 1) (by omega) q (by omega) h2
theorem pD_R {c : Int} (h : pD c = true) : 48 ≤ c ∧ c ≤ 57 := of_decide_eq_true h
theorem VL_R {s : Int} {b : Nat → Int} {n p : Nat} (h : KD s b n p = 2) : 0 ≤ VL b n p ∧ VL b n p ≤ 9999 := by
  obtain ⟨h1, h2, h3⟩ := KD_2 h
  have hl : pL (b p) = false := by
    have := pD_R h2
    exact decide_eq_false (by omega)
  have e : TE b n p = RN pD b n (p + 1) := by unfold TE; rw [if_neg (by rw [hl]; decide), if_pos h2]
  have ha : ∀ j, p + j < TE b n p → 48 ≤ b (p + j) ∧ b (p + j) ≤ 57 := fun j hj => by
    refine pD_R ?_
    by_cases c : j = 0
    · subst c; exact h2
    · exact RN_all _ (p + 1) rfl (p + j) (by omega) (by rw [← e]; exact hj)
  have hk := TE_R (b := b) h1
  unfold VL
  have d0 := ha 0 (by omega)
  match hm : TE b n p - p, h3 with
  | 0, _ => omega
  | 1, _ => show 0 ≤ 10 * 0 + b (p + 0) - 48 ∧ 10 * 0 + b (p + 0) - 48 ≤ 9999; omega
  | 2, _ =>
    have d1 := ha 1 (by omega)
    show 0 ≤ 10 * (10 * 0 + b (p + 0) - 48) + b (p + 1) - 48 ∧ 10 * (10 * 0 + b (p + 0) - 48) + b (p + 1) - 48 ≤ 9999; omega
  | 3, _ =>
    have d1 := ha 1 (by omega)
    have d2 := ha 2 (by omega)
    show 0 ≤ 10 * (10 * (10 * 0 + b (p + 0) - 48) + b (p + 1) - 48) + b (p + 2) - 48 ∧ 10 * (10 * (10 * 0 + b (p + 0) - 48) + b (p + 1) - 48) + b (p + 2) - 48 ≤ 9999; omega
  | 4, _ =>
    have d1 := ha 1 (by omega)
    have d2 := ha 2 (by omega)
    have d3 := ha 3 (by omega)
    show 0 ≤ 10 * (10 * (10 * (10 * 0 + b (p + 0) - 48) + b (p + 1) - 48) + b (p + 2) - 48) + b (p + 3) - 48 ∧ 10 * (10 * (10 * (10 * 0 + b (p + 0) - 48) + b (p + 1) - 48) + b (p + 2) - 48) + b (p + 3) - 48 ≤ 9999; omega
/-- the tokens that were laid so far: T of them, read on from l -/
def TKI (s : Int) (b : Nat → Int) (n : Nat) (K V S : Nat → Int) (T : Int) (l : Nat) : Prop := (∀ i : Nat, (i : Int) < T → TP b n i < n ∧ K i = KD s b n (TP b n i) ∧ (K i = 2 → V i = VL b n (TP b n i)) ∧ S i = (TP b n i : Int)) ∧ TP b n T.toNat = RN pB b n l
theorem TKI_0 {s : Int} {b : Nat → Int} {n : Nat} {K V S : Nat → Int} : TKI s b n K V S 0 0 := ⟨fun i hi => by omega, rfl⟩
theorem TKI_b {s l T : Int} {b : Nat → Int} {n : Int} {K V S : Nat → Int} (h : TKI s b n.toNat K V S T l.toNat) (h0 : 0 ≤ l) (hl : l < n) (hb : pB (b l.toNat) = true) : TKI s b n.toNat K V S T (l + 1).toNat := ⟨h.1, RN_st h.2 h0 hl hb⟩
theorem TKI_t {s l m T : Int} {b : Nat → Int} {n : Int} {K V S K' V' S' : Nat → Int} (h : TKI s b n.toNat K V S T l.toNat) (h0 : 0 ≤ l) (hT : 0 ≤ T) (hl : l < n) (hb : pB (b l.toNat) = false) (hm : m = ((TE b n.toNat l.toNat : Nat) : Int)) (k1 : ∀ j : Nat, ¬ (j : Int) = T → K' j = K j) (k2 : ∀ j : Nat, ¬ (j : Int) = T → V' j = V j) (k3 : ∀ j : Nat, ¬ (j : Int) = T → S' j = S j) (e1 : K' T.toNat = KD s b n.toNat l.toNat) (e2 : KD s b n.toNat l.toNat = 2 → V' T.toNat = VL b n.toNat l.toNat) (e3 : S' T.toNat = l) : TKI s b n.toNat K' V' S' (T + 1) m.toNat := by
  have ep : TP b n.toNat T.toNat = l.toNat := by rw [h.2, RN_e (.inr hb)]
  refine ⟨fun i hi => ?_, ?_⟩
  · by_cases c : (i : Int) = T
    · have ei : i = T.toNat := by omega
      rw [ei, ep]
      exact ⟨by omega, e1, fun z => e2 (e1 ▸ z), by rw [e3]; omega⟩
    · rw [k1 i c, k2 i c, k3 i c]; exact h.1 i (by omega)
  · rw [show (T + 1).toNat = T.toNat + 1 by omega, show m.toNat = TE b n.toNat l.toNat by omega]
    show (if _ then _ else _) = _
    rw [ep, if_pos (by omega)]
/-- all tokens -/
def TOK (s : Int) (b : Nat → Int) (n : Nat) (D : Nat → Nat → Int) (t : Nat) : Prop := D 35 7 = (t : Int) + 1 ∧ TP b n t = n ∧ (∀ i : Nat, i < t → TP b n i < n) ∧ (∀ i : Nat, i ≤ t → D 37 i = KD s b n (TP b n i) ∧ (D 37 i = 2 → D 38 i = VL b n (TP b n i)) ∧ D 39 i = (TP b n i : Int))
theorem TOK_e {s l T : Int} {b : Nat → Int} {n : Int} {K V S : Nat → Int} {D : Nat → Nat → Int} (h : TKI s b n.toNat K V S T l.toNat) (hT : 0 ≤ T) (h0 : 0 ≤ n) (hl : n = l) (k1 : ∀ j : Nat, ¬ (j : Int) = T → D 37 j = K j) (k2 : ∀ j : Nat, ¬ (j : Int) = T → D 38 j = V j) (k3 : ∀ j : Nat, ¬ (j : Int) = T → D 39 j = S j) (e1 : D 37 T.toNat = 0) (e3 : D 39 T.toNat = n) (e7 : D 35 7 = T + 1) {t : Nat} (ht : (t : Int) = T) : TOK s b n.toNat D t := by
  have et : t = T.toNat := by omega
  subst et; subst hl
  have ep : TP b n.toNat T.toNat = n.toNat := by rw [h.2, RN_e (.inl (Nat.le_refl _))]
  refine ⟨by omega, ep, fun i hi => (h.1 i (by omega)).1, fun i hi => ?_⟩
  by_cases c : (i : Int) = T
  · have ei : i = T.toNat := by omega
    rw [ei, ep, KD_e (Nat.le_refl _), e1]
    exact ⟨rfl, fun z => absurd z (by decide), by rw [e3]; omega⟩
  · rw [k1 i c, k2 i c, k3 i c]; exact (h.1 i (by omega)).2
theorem TKI_x {s T T' l l' : Int} {b : Nat → Int} {n : Nat} {K V S : Nat → Int} (h : TKI s b n K V S T l.toNat) (eT : T' = T) (el : l' = l) : TKI s b n K V S T' l'.toNat := by subst eT; subst el; exact h
theorem VL_e {s l m v w : Int} {b : Nat → Int} {n : Int} (hm : m = ((TE b n.toNat l.toNat : Nat) : Int)) (hn : m - l ≤ 4 → v = nv b l.toNat (m - l).toNat) (hw : w = wr v) (h0 : 0 ≤ l) : KD s b n.toNat l.toNat = 2 → w = VL b n.toNat l.toNat := by
  intro z
  have y := KD_2 z
  have r := VL_R z
  have e : v = VL b n.toNat l.toNat := by
    rw [hn (by omega)]
    unfold VL
    congr 1; omega
  rw [hw, e]
  exact wr_R ⟨by omega, by omega⟩
/-! the reference's reading of words -/
def WQ (w : List Int) (len : Int) (b : Nat → Int) (p l : Int) : Prop := len = (w.length : Int) ∧ ∀ j : Nat, (j : Int) < l → b (p.toNat + j) = w.getD j 0
theorem WQ_0 {w : List Int} {len p l : Int} {b : Nat → Int} (h : len = (w.length : Int)) (hl : l ≤ 0) : WQ w len b p l := ⟨h, fun j hj => by omega⟩
theorem WQ_s {w : List Int} {len p l c d : Int} {b : Nat → Int} (h : WQ w len b p l) (h0 : 0 ≤ p ∧ 0 ≤ l) (hc : c = b (p + l).toNat) (hd : d = w.getD l.toNat 0) (e : c = d) : WQ w len b p (l + 1) := by
  refine ⟨h.1, fun j hj => ?_⟩
  by_cases z : (j : Int) < l
  · exact h.2 j z
  · rw [show j = l.toNat by omega, show p.toNat + l.toNat = (p + l).toNat by omega, ← hc, ← hd, e]
theorem WM_1 {w : List Int} {p q l : Int} {b : Nat → Int} (h : WQ w (q - p) b p l) (hp : 0 ≤ p ∧ p ≤ q) (hl : (w.length : Int) ≤ l) : wm w b p.toNat q.toNat = 1 :=
  wm_1 (by have := h.1; omega) (fun j hj => h.2 j (by omega))
theorem WM_a {w : List Int} {p q : Int} {b : Nat → Int} (hp : 0 ≤ p ∧ p ≤ q) (h : ¬ q - p = (w.length : Int)) : wm w b p.toNat q.toNat = 0 := wm_0 (fun z => h (by have := z.1; omega))
theorem WM_b {w : List Int} {p q l c d : Int} {b : Nat → Int} (h0 : 0 ≤ p ∧ 0 ≤ l) (hl : l < (w.length : Int)) (hc : c = b (p + l).toNat) (hd : d = w.getD l.toNat 0) (e : ¬ c = d) : wm w b p.toNat q.toNat = 0 := wm_0 (fun z => e (by
  have y := z.2 l.toNat (by omega)
  rw [show p.toNat + l.toNat = (p + l).toNat by omega, ← hc, ← hd] at y
  exact y))
/-- the reference's number of a kind -/
def RK (s k : Int) : Int := if k ≤ 2 then k else if k < 1000 then 100 + k else if s = 0 then k - 980 else if k = 1000 then 7 else if k = 1001 then 8 else if k = 1002 then 3 else if k = 1003 then 4 else if k = 1004 then 5 else if k = 1005 then 6 else k - 965
theorem RN_p {P : Int → Bool} {b : Nat → Int} {n p : Int} (hp : 0 ≤ p ∧ p < n) (h : P (b p.toNat) = true) : RN P b n.toNat (p + 1).toNat = RN P b n.toNat p.toNat := by
  rw [RN_s (p := p.toNat) (by omega) h, show (p + 1).toNat = p.toNat + 1 by omega]
