/-! answers to QUESTIONS that tell: the last one of a child that is right or not; children by kinds -/
/-- answer i: 1 right, 0 not, -1 not of the child or its QUESTION doesn't tell -/
def GRT (S : Nat → Int → Int) (K : Nat → Int) (N : Nat → Nat → Int) (c s : Int) (i : Nat) : Int :=
  if N i 0 = c then (if K (N i 1).toNat = s ∧ S (N i 1).toNat 9 = 1 then (if N i 3 = S (N i 1).toNat 8 then 1 else 0) else -1) else -1
section GRTs
variable {S S' : Nat → Int → Int} {K K' : Nat → Int} {N N' : Nat → Nat → Int} {c s : Int} {i : Nat}
theorem GRT_n0 (h : ¬ N i 0 = c) : GRT S K N c s i = -1 := if_neg h
theorem GRT_n1 (h : ¬ (K (N i 1).toNat = s ∧ S (N i 1).toNat 9 = 1)) : GRT S K N c s i = -1 := by
  unfold GRT
  rw [if_neg h]
  split <;> rfl
theorem GRT_1 (h0 : N i 0 = c) (h : K (N i 1).toNat = s ∧ S (N i 1).toNat 9 = 1) (r : N i 3 = S (N i 1).toNat 8) : GRT S K N c s i = 1 := by
  unfold GRT
  rw [if_pos h0, if_pos h, if_pos r]
theorem GRT_0 (h0 : N i 0 = c) (h : K (N i 1).toNat = s ∧ S (N i 1).toNat 9 = 1) (r : ¬ N i 3 = S (N i 1).toNat 8) : GRT S K N c s i = 0 := by
  unfold GRT
  rw [if_pos h0, if_pos h, if_neg r]
theorem GRT_R : -1 ≤ GRT S K N c s i ∧ GRT S K N c s i ≤ 1 := by
  unfold GRT
  repeat' split
  all_goals omega
theorem GRT_c (e0 : N' i 0 = N i 0) (e1 : N' i 1 = N i 1) (e3 : N' i 3 = N i 3) (ek : K' (N i 1).toNat = K (N i 1).toNat) (e9 : S' (N i 1).toNat 9 = S (N i 1).toNat 9) (e8 : S' (N i 1).toNat 8 = S (N i 1).toNat 8) : GRT S' K' N' c s i = GRT S K N c s i := by
  unfold GRT
  rw [e0, e1, e3, ek, e9, e8]
end GRTs
/-- the last one -/
def LST (g : Nat → Int) : Nat → Int
  | 0 => -1
  | i + 1 => if g i = -1 then LST g i else g i
theorem LST_R {g : Nat → Int} (h : ∀ i, -1 ≤ g i ∧ g i ≤ 1) : ∀ n : Nat, -1 ≤ LST g n ∧ LST g n ≤ 1
  | 0 => by show (-1 : Int) ≤ -1 ∧ (-1 : Int) ≤ 1; omega
  | n + 1 => by
    have z := LST_R h n
    have y := h n
    show -1 ≤ (if g n = -1 then LST g n else g n) ∧ (if g n = -1 then LST g n else g n) ≤ 1
    split <;> omega
theorem LST_c {g g' : Nat → Int} : ∀ n : Nat, (∀ i, i < n → g' i = g i) → LST g' n = LST g n
  | 0, _ => rfl
  | n + 1, h => by
    show (if g' n = -1 then LST g' n else g' n) = (if g n = -1 then LST g n else g n)
    rw [LST_c n (fun i hi => h i (by omega)), h n (by omega)]
theorem LST_sn {g : Nat → Int} {l : Int} (h0 : 0 ≤ l) (e : g l.toNat = -1) : LST g (l + 1).toNat = LST g l.toNat := by
  rw [show (l + 1).toNat = l.toNat + 1 by omega]
  exact if_pos e
theorem LST_sy {g : Nat → Int} {l v : Int} (h0 : 0 ≤ l) (e : g l.toNat = v) (hv : ¬ v = -1) : LST g (l + 1).toNat = v := by
  rw [show (l + 1).toNat = l.toNat + 1 by omega]
  show (if g l.toNat = -1 then LST g l.toNat else g l.toNat) = v
  rw [e, if_neg hv]
theorem LST_h {g : Nat → Int} {n l v : Int} (h : LST g n.toNat = LST g (l + 1).toNat) (h0 : 0 ≤ l) (e : g l.toNat = v) (hv : ¬ v = -1) : v = LST g n.toNat := by
  rw [h, LST_sy h0 e hv]
theorem LST_d {g : Nat → Int} {n l l2 : Int} (h : LST g n.toNat = LST g (l + 1).toNat) (h0 : 0 ≤ l) (e : g l.toNat = -1) (e2 : l2 = l - 1) : LST g n.toNat = LST g (l2 + 1).toNat := by
  rw [h, LST_sn h0 e, show l2 + 1 = l by omega]
theorem LST_e {g : Nat → Int} {n l : Int} (h : LST g n.toNat = LST g (l + 1).toNat) (hl : l < 0) : (-1 : Int) = LST g n.toNat := by
  rw [h, show (l + 1).toNat = 0 by omega]; rfl
/-- children by kinds -/
def BSK (a b : Int) : Int := if a = -1 ∨ b = -1 then -1 else (if a = 1 then 0 else 2) + (if b = 1 then 0 else 1)
def TLN (h : Nat → Int) (k : Int) : Nat → Nat
  | 0 => 0
  | c + 1 => if h c = k then TLN h k c + 1 else TLN h k c
theorem TLN_le {h : Nat → Int} {k : Int} : ∀ n : Nat, TLN h k n ≤ n
  | 0 => Nat.le_refl _
  | n + 1 => by
    have z := TLN_le (h := h) (k := k) n
    show (if h n = k then TLN h k n + 1 else TLN h k n) ≤ n + 1
    split <;> omega
theorem TLN_c {h h' : Nat → Int} {k : Int} : ∀ n : Nat, (∀ c, c < n → h' c = h c) → TLN h' k n = TLN h k n
  | 0, _ => rfl
  | n + 1, e => by
    show (if h' n = k then TLN h' k n + 1 else TLN h' k n) = (if h n = k then TLN h k n + 1 else TLN h k n)
    rw [TLN_c n (fun c hc => e c (by omega)), e n (by omega)]
theorem TLN_y {h : Nat → Int} {k l : Int} (h0 : 0 ≤ l) (e : h l.toNat = k) : TLN h k (l + 1).toNat = TLN h k l.toNat + 1 := by
  rw [show (l + 1).toNat = l.toNat + 1 by omega]
  exact if_pos e
theorem TLN_n {h : Nat → Int} {k l : Int} (h0 : 0 ≤ l) (e : ¬ h l.toNat = k) : TLN h k (l + 1).toNat = TLN h k l.toNat := by
  rw [show (l + 1).toNat = l.toNat + 1 by omega]
  exact if_neg e
theorem TLN_u {D D1 h : Nat → Int} {l x : Int} (q : ∀ k : Nat, k < 4 → D k = (TLN h (k : Int) l.toNat : Int)) (h0 : 0 ≤ l) (e : h l.toNat = x) (x0 : 0 ≤ x) (kp : ∀ k : Nat, ¬ k = x.toNat → D1 k = D k) (hv : D1 x.toNat = D x.toNat + 1) : ∀ k : Nat, k < 4 → D1 k = (TLN h (k : Int) (l + 1).toNat : Int) := by
  intro k hk
  by_cases c : k = x.toNat
  · subst c
    rw [hv, q _ hk, TLN_y h0 (by rw [e]; omega)]
    omega
  · rw [kp k c, q k hk, TLN_n h0 (by rw [e]; omega)]
theorem TLN_k {D h : Nat → Int} {l : Int} (q : ∀ k : Nat, k < 4 → D k = (TLN h (k : Int) l.toNat : Int)) (h0 : 0 ≤ l) (e : h l.toNat = -1) : ∀ k : Nat, k < 4 → D k = (TLN h (k : Int) (l + 1).toNat : Int) := by
  intro k hk
  rw [q k hk, TLN_n h0 (by rw [e]; omega)]
def BEV (t : Nat → Int) (w : Int) : Int := if w < 0 ∨ 4 < w then -1 else if w < 4 then t w.toNat else if 0 < t 0 + t 1 + t 2 + t 3 ∧ 4 * (t 1 + t 2) ≤ t 0 + t 1 + t 2 + t 3 then 1 else 0
theorem BEV_n {t : Nat → Int} {w : Int} (h : ¬ (0 ≤ w ∧ w ≤ 4)) : (-1 : Int) = BEV t w := by
  unfold BEV
  rw [if_pos (by omega)]
theorem BEV_v {t : Nat → Int} {w v : Int} (h : 0 ≤ w ∧ w < 4) (e : v = t w.toNat) : v = BEV t w := by
  unfold BEV
  rw [if_neg (by omega), if_pos (by omega)]
  exact e
theorem BEV_1 {t : Nat → Int} {w a b c d : Int} (ea : a = t 0) (eb : b = t 1) (ec : c = t 2) (ed : d = t 3) (hw : w = 4) (h : 0 < a + b + c + d ∧ 4 * (b + c) ≤ a + b + c + d) : (1 : Int) = BEV t w := by
  subst ea eb ec ed
  unfold BEV
  rw [if_neg (by omega), if_neg (by omega), if_pos h]
theorem BEV_0 {t : Nat → Int} {w a b c d : Int} (ea : a = t 0) (eb : b = t 1) (ec : c = t 2) (ed : d = t 3) (hw : w = 4) (h : ¬ (0 < a + b + c + d ∧ 4 * (b + c) ≤ a + b + c + d)) : (0 : Int) = BEV t w := by
  subst ea eb ec ed
  unfold BEV
  rw [if_neg (by omega), if_neg (by omega), if_neg h]
theorem BEV_c {t t' : Nat → Int} {w : Int} (h : ∀ k, k < 4 → t' k = t k) : BEV t' w = BEV t w := by
  unfold BEV
  rw [h 0 (by decide), h 1 (by decide), h 2 (by decide), h 3 (by decide)]
  by_cases c : w < 0 ∨ 4 < w
  · rw [if_pos c, if_pos c]
  · rw [if_neg c, if_neg c]
    by_cases c2 : w < 4
    · rw [if_pos c2, if_pos c2, h w.toNat (by omega)]
    · rw [if_neg c2, if_neg c2]
/-- both sides' tellings -/
theorem GRL {A B C f : Nat → Int} (hA : ANL A f) (hS : SDL B f) (hQ : QRL C f) {c s : Int} {i : Nat} (hi : (i : Int) < f 3) : GRT (SDC B) (fun q => C (5 * q + 1)) (fun i c => A (6 * i + c)) c s i = GRT (SAID f) (fun q => f (5320 + 5 * q + 1)) (fun i c => f (5540 + 6 * i + c)) c s i := by
  have z := (hA i hi).2.1
  have hq : (((f (5540 + 6 * i + 1)).toNat : Nat) : Int) < f 1 := by omega
  exact GRT_c (ANL_v hA hi (by decide)) (ANL_v hA hi (by decide)) (ANL_v hA hi (by decide)) (hQ _ hq).2.1 (SDL_c hS hq (by decide)) (SDL_c hS hq (by decide))
theorem LRL {A B C f : Nat → Int} (hA : ANL A f) (hS : SDL B f) (hQ : QRL C f) {c s n : Int} (hn : n = f 3) : LST (GRT (SDC B) (fun q => C (5 * q + 1)) (fun i c => A (6 * i + c)) c s) n.toNat = LST (GRT (SAID f) (fun q => f (5320 + 5 * q + 1)) (fun i c => f (5540 + 6 * i + c)) c s) (f 3).toNat := by
  subst hn
  exact LST_c _ (fun i hi => GRL hA hS hQ (by omega))
theorem BEL {A B C f : Nat → Int} (hA : ANL A f) (hS : SDL B f) (hQ : QRL C f) {n m w : Int} (hn : n = f 3) (hm : m = f 2) : BEV (fun k => (TLN (fun c => BSK (LST (GRT (SDC B) (fun q => C (5 * q + 1)) (fun i c => A (6 * i + c)) (c : Int) 0) n.toNat) (LST (GRT (SDC B) (fun q => C (5 * q + 1)) (fun i c => A (6 * i + c)) (c : Int) 1) n.toNat)) (k : Int) m.toNat : Int)) w = BEV (fun k => (TLN (fun c => BSK (LST (GRT (SAID f) (fun q => f (5320 + 5 * q + 1)) (fun i c => f (5540 + 6 * i + c)) (c : Int) 0) (f 3).toNat) (LST (GRT (SAID f) (fun q => f (5320 + 5 * q + 1)) (fun i c => f (5540 + 6 * i + c)) (c : Int) 1) (f 3).toNat)) (k : Int) (f 2).toNat : Int)) w := by
  subst hm
  refine BEV_c (fun k hk => ?_)
  show (TLN _ (k : Int) (f 2).toNat : Int) = (TLN _ (k : Int) (f 2).toNat : Int)
  rw [TLN_c (f 2).toNat (fun c hc => by rw [LRL hA hS hQ hn, LRL hA hS hQ hn])]
/-- children of a sort that fail, by the rule that is theirs -/
def SRK (a l t s r : Int) : Int := if a = s then (if l = 0 then (if r = 8 ∨ t = r then 1 else 0) else 0) else 0
theorem TLN_iy {h : Nat → Int} {k l m : Int} (q : m = (TLN h k l.toNat : Int)) (h0 : 0 ≤ l) (e : h l.toNat = k) : m + 1 = (TLN h k (l + 1).toNat : Int) := by
  rw [TLN_y h0 e]
  omega
theorem TLN_in {h : Nat → Int} {k l m x : Int} (q : m = (TLN h k l.toNat : Int)) (h0 : 0 ≤ l) (e : h l.toNat = x) (hx : ¬ x = k) : m = (TLN h k (l + 1).toNat : Int) := by
  rw [TLN_n h0 (by rw [e]; exact hx)]
  exact q
theorem SOL {A B C D f : Nat → Int} (hA : ANL A f) (hS : SDL B f) (hQ : QRL C f) (hC : CHL D f) {n m s r : Int} (hn : n = f 3) (hm : m = f 2) : TLN (fun c => SRK (D (4 * c + 3)) (LST (GRT (SDC B) (fun q => C (5 * q + 1)) (fun i c => A (6 * i + c)) (c : Int) 0) n.toNat) ((BST (fun k => ((AGC (SDC B) (fun i c => A (6 * i + c)) (c : Int) (k : Int) n.toNat : Nat) : Int)) 7 : Nat) : Int) s r) 1 m.toNat = TLN (fun c => SRK (f (5380 + 4 * c + 3)) (LST (GRT (SAID f) (fun q => f (5320 + 5 * q + 1)) (fun i c => f (5540 + 6 * i + c)) (c : Int) 0) (f 3).toNat) ((BST (fun k => PW9 (AGC (SAID f) (fun i c => f (5540 + 6 * i + c)) (c : Int) (k : Int) (f 3).toNat)) 7 : Nat) : Int) s r) 1 (f 2).toNat := by
  subst hm
  refine TLN_c _ (fun c hc => ?_)
  show SRK (D (4 * c + 3)) _ _ s r = SRK (f (5380 + 4 * c + 3)) _ _ s r
  rw [LRL hA hS hQ hn, ODL_b hA hS hn, (hC c (by omega)).2.2.2]
/-- answers to QUESTIONS that tell, by how they were asked: 2 there, 1 elsewhere -/
def PLK (S : Nat → Int → Int) (K : Nat → Int) (N : Nat → Nat → Int) (w : Int) (i : Nat) : Int :=
  if w = -1 ∨ N i 2 = w then (if K (N i 1).toNat = 0 ∧ S (N i 1).toNat 9 = 1 then (if N i 3 = S (N i 1).toNat 0 then 2 else 1) else 0) else 0
section PLKs
variable {S S' : Nat → Int → Int} {K K' : Nat → Int} {N N' : Nat → Nat → Int} {w : Int} {i : Nat}
theorem PLK_n0 (h : ¬ (w = -1 ∨ N i 2 = w)) : PLK S K N w i = 0 := if_neg h
theorem PLK_n1 (h : ¬ (K (N i 1).toNat = 0 ∧ S (N i 1).toNat 9 = 1)) : PLK S K N w i = 0 := by
  unfold PLK
  rw [if_neg h]
  split <;> rfl
theorem PLK_2 (h0 : w = -1 ∨ N i 2 = w) (h : K (N i 1).toNat = 0 ∧ S (N i 1).toNat 9 = 1) (r : N i 3 = S (N i 1).toNat 0) : PLK S K N w i = 2 := by
  unfold PLK
  rw [if_pos h0, if_pos h, if_pos r]
theorem PLK_1 (h0 : w = -1 ∨ N i 2 = w) (h : K (N i 1).toNat = 0 ∧ S (N i 1).toNat 9 = 1) (r : ¬ N i 3 = S (N i 1).toNat 0) : PLK S K N w i = 1 := by
  unfold PLK
  rw [if_pos h0, if_pos h, if_neg r]
theorem PLK_c (e1 : N' i 1 = N i 1) (e2 : N' i 2 = N i 2) (e3 : N' i 3 = N i 3) (ek : K' (N i 1).toNat = K (N i 1).toNat) (e9 : S' (N i 1).toNat 9 = S (N i 1).toNat 9) (e0 : S' (N i 1).toNat 0 = S (N i 1).toNat 0) : PLK S' K' N' w i = PLK S K N w i := by
  unfold PLK
  rw [e1, e2, e3, ek, e9, e0]
end PLKs
theorem PLL {A B C f : Nat → Int} (hA : ANL A f) (hS : SDL B f) (hQ : QRL C f) {w : Int} {i : Nat} (hi : (i : Int) < f 3) : PLK (SDC B) (fun q => C (5 * q + 1)) (fun i c => A (6 * i + c)) w i = PLK (SAID f) (fun q => f (5320 + 5 * q + 1)) (fun i c => f (5540 + 6 * i + c)) w i := by
  have z := (hA i hi).2.1
  have hq : (((f (5540 + 6 * i + 1)).toNat : Nat) : Int) < f 1 := by omega
  exact PLK_c (ANL_v hA hi (by decide)) (ANL_v hA hi (by decide)) (ANL_v hA hi (by decide)) (hQ _ hq).2.1 (SDL_c hS hq (by decide)) (SDL_c hS hq (by decide))
theorem PTL {A B C f : Nat → Int} (hA : ANL A f) (hS : SDL B f) (hQ : QRL C f) {w k n : Int} (hn : n = f 3) : TLN (PLK (SDC B) (fun q => C (5 * q + 1)) (fun i c => A (6 * i + c)) w) k n.toNat = TLN (PLK (SAID f) (fun q => f (5320 + 5 * q + 1)) (fun i c => f (5540 + 6 * i + c)) w) k (f 3).toNat := by
  subst hn
  exact TLN_c _ (fun i hi => PLL hA hS hQ (by omega))
/-- of a number, b of it there: how many, how many there, the share, and the share with a thousand by the root off or on -/
def PLV (rt : Int → Int) (a b w : Int) : Int := if w = 0 then a else if w = 1 then b else if a = 0 then -1 else if w = 2 then clp (1000 * b / a) 1000 else if w = 3 then clp (1000 * b / a - 1000 / rt a) 1000 else clp (1000 * b / a + 1000 / rt a) 1000
theorem TLN_2 {h : Nat → Int} : ∀ n : Nat, TLN h 1 n + TLN h 2 n ≤ n
  | 0 => Nat.le_refl _
  | n + 1 => by
    have z := TLN_2 (h := h) n
    show (if h n = 1 then TLN h 1 n + 1 else TLN h 1 n) + (if h n = 2 then TLN h 2 n + 1 else TLN h 2 n) ≤ n + 1
    by_cases a : h n = 1
    · rw [if_pos a, if_neg (by omega)]
      omega
    · rw [if_neg a]
      split <;> omega
theorem PLa {h : Nat → Int} {l a x d : Int} (q : a = (TLN h 1 l.toNat : Int) + (TLN h 2 l.toNat : Int)) (h0 : 0 ≤ l) (e : h l.toNat = x) (hd : (x = 0 ∧ d = 0) ∨ (x = 1 ∧ d = 1) ∨ (x = 2 ∧ d = 1)) : a + d = (TLN h 1 (l + 1).toNat : Int) + (TLN h 2 (l + 1).toNat : Int) := by
  rcases hd with ⟨rfl, rfl⟩ | ⟨rfl, rfl⟩ | ⟨rfl, rfl⟩
  · rw [TLN_n h0 (by omega), TLN_n h0 (by omega)]; omega
  · rw [TLN_y h0 e, TLN_n h0 (by omega)]; omega
  · rw [TLN_n h0 (by omega), TLN_y h0 e]; omega
theorem PLb {h : Nat → Int} {l b x d : Int} (q : b = (TLN h 2 l.toNat : Int)) (h0 : 0 ≤ l) (e : h l.toNat = x) (hd : (x = 0 ∧ d = 0) ∨ (x = 1 ∧ d = 0) ∨ (x = 2 ∧ d = 1)) : b + d = (TLN h 2 (l + 1).toNat : Int) := by
  rcases hd with ⟨rfl, rfl⟩ | ⟨rfl, rfl⟩ | ⟨rfl, rfl⟩
  · rw [TLN_n h0 (by omega)]; omega
  · rw [TLN_n h0 (by omega)]; omega
  · rw [TLN_y h0 e]; omega
