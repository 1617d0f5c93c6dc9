/-! the reference's text of a LAW, so far -/
theorem gLF_ok {K V : Nat → Int} {l : Int} {i : Nat} (h : (gLF K V l i).1 = 0) : gLF K V l i = gLine K V i := by
  unfold gLF at h ⊢
  split at h
  · cases h
  · rename_i c; rw [if_neg c]
    split at h
    · cases h
    · rename_i c2; rw [if_neg c2]
def TRl (b : Nat → Int) (n t : Nat) (D : Nat → Nat → Int) (c g : Int) : Prop := (g = 1 ∧ lpos (KF 1 b n) (VF b n) c.toNat ≤ t ∧ CUR 1 b n D (lpos (KF 1 b n) (VF b n) c.toNat) ∧ FX 1 b n = gX (KF 1 b n) (VF b n) 1 600 (lpos (KF 1 b n) (VF b n) c.toNat) c) ∨ (g = 0 ∧ ¬ (FX 1 b n).1 = 0 ∧ D 79 17 = (FX 1 b n).1 ∧ D 79 18 = SF b n (FX 1 b n).2.1)
theorem TRl_r {b : Nat → Int} {n t : Nat} {D : Nat → Nat → Int} {c g : Int} (h : TRl b n t D c g) : TRr 1 b n t D c g := by
  rcases h with ⟨a, h1, h2, h3⟩ | y
  · exact .inl ⟨a, _, h1, h2, h3⟩
  · exact .inr y
theorem TRl_0 {b : Nat → Int} {n t : Nat} {D : Nat → Nat → Int} (h : CUP 1 b n D (RN pB b n 0)) : TRl b n t D 0 1 := .inl ⟨rfl, Nat.zero_le _, h, rfl⟩
theorem TRl_g {c g : Int} {b : Nat → Int} {n t : Nat} {D : Nat → Nat → Int} (h : TRl b n t D c g) (hg : g = 1) : lpos (KF 1 b n) (VF b n) c.toNat ≤ t ∧ CUR 1 b n D (lpos (KF 1 b n) (VF b n) c.toNat) ∧ FX 1 b n = gX (KF 1 b n) (VF b n) 1 600 (lpos (KF 1 b n) (VF b n) c.toNat) c := by
  rcases h with ⟨_, y⟩ | ⟨y, _⟩
  · exact y
  · omega
theorem TRl_x {c c' g : Int} {b : Nat → Int} {n t : Nat} {D D1 : Nat → Nat → Int} (h : TRl b n t D c g) (e3 : D1 79 13 = D 79 13) (e4 : D1 79 14 = D 79 14) (e5 : D1 79 15 = D 79 15) (e6 : D1 79 16 = D 79 16) (e7 : D1 79 17 = D 79 17) (e8 : D1 79 18 = D 79 18) (hc : g = 1 → c' = c) : TRl b n t D1 c' g := by
  rcases h with ⟨a, h1, h2, h3⟩ | ⟨a, h1, h2, h3⟩
  · rw [hc a]; exact .inl ⟨a, h1, CUR_sm h2 e3 e4 e5 e6, h3⟩
  · exact .inr ⟨a, h1, by rw [e7]; exact h2, by rw [e8]; exact h3⟩
theorem TRl_s {c v : Int} {b : Nat → Int} {n t i : Nat} {D2 : Nat → Nat → Int} (hx : RSX 1 b n i D2 v (gLF (KF 1 b n) (VF b n) c i)) (hi : i ≤ t) (ei : i = lpos (KF 1 b n) (VF b n) c.toNat) (h0 : 0 ≤ c) (hz : KZ (KF 1 b n) t) (hf : ((gLF (KF 1 b n) (VF b n) c i).1 = 0 → FX 1 b n = gX (KF 1 b n) (VF b n) 1 600 (gLF (KF 1 b n) (VF b n) c i).2 (c + 1)) ∧ (¬ (gLF (KF 1 b n) (VF b n) c i).1 = 0 → (FX 1 b n).1 = (gLF (KF 1 b n) (VF b n) c i).1 ∧ (FX 1 b n).2.1 = (gLF (KF 1 b n) (VF b n) c i).2)) : TRl b n t D2 (if v = 0 then c else c + 1) v := by
  have hm := gLF_M (K := KF 1 b n) (V := VF b n) (l := c) (i := i) hz
  rcases hx with ⟨a, e, h⟩ | ⟨a, e, h1, h2⟩
  · subst e
    rw [if_neg (by decide)]
    have eg : (gLF (KF 1 b n) (VF b n) c i).2 = lpos (KF 1 b n) (VF b n) (c + 1).toNat := by
      rw [gLF_ok a, show (c + 1).toNat = c.toNat + 1 by omega, ei]; rfl
    have e2 := hf.1 a
    rw [eg] at h e2
    exact .inl ⟨rfl, by rw [← eg]; exact (hm a).2, h, e2⟩
  · subst e
    have z := hf.2 a
    exact .inr ⟨rfl, by rw [z.1]; exact a, by rw [z.1]; exact h1, by rw [z.2]; exact h2⟩
/-- the reference's lines so far -/
def LXX (g h : Nat → Int) (m : Int) (K V : Nat → Int) (q : Nat) : Prop := ∃ a e : Int, (0 ≤ a ∧ a ≤ e ∧ e ≤ m) ∧ LXR g h (q : Int) a e K V (lpos K V q)
/-- what the class keeps of a LAW: its rows in A4, how many in A5, its code in A6 -/
def TLC (s k : Int) (b : Nat → Int) (n : Nat) (e v : Int) (A4 A5 A6 B4 B5 B6 : Nat → Int) : Prop :=
  (s = 1 ∧ (0 ≤ k ∧ k ≤ 3) ∧ e = 0 → B5 k.toNat = v ∧ (0 ≤ v ∧ v ≤ 16) ∧ (∀ j : Nat, ¬ j = k.toNat → B5 j = A5 j) ∧ (∀ j : Nat, j < 64 * k.toNat ∨ 64 * k.toNat + 64 ≤ j → B4 j = A4 j) ∧ (∀ j : Nat, j < 500 * k.toNat ∨ 500 * k.toNat + 500 ≤ j → B6 j = A6 j) ∧ (∀ q : Nat, (q : Int) < v → LROW (fun j => B4 (64 * k.toNat + j)) (KF 1 b n) (VF b n) q) ∧ (LTOT (KF 1 b n) (VF b n) v.toNat).length ≤ 500 ∧ lst B6 (500 * k.toNat) (LTOT (KF 1 b n) (VF b n) v.toNat).length = LTOT (KF 1 b n) (VF b n) v.toNat) ∧ (¬ (s = 1 ∧ (0 ≤ k ∧ k ≤ 3) ∧ e = 0) → ∀ j : Nat, B4 j = A4 j ∧ B5 j = A5 j ∧ B6 j = A6 j)
/-- what the reference keeps of a LAW -/
def TLR (s k : Int) (b : Nat → Int) (n : Nat) (e v : Int) (f f1 : Nat → Int) : Prop :=
  (s = 1 ∧ (0 ≤ k ∧ k ≤ 3) ∧ e = 0 → f1 (974 + k.toNat) = v ∧ (∀ j : Nat, ¬ j = 974 + k.toNat → (∀ q : Nat, q < 4 → j < 978 + 64 * q + 16 * k.toNat ∨ 978 + 64 * q + 16 * k.toNat + 16 ≤ j) → (j < 1240 + 1020 * k.toNat ∨ 1240 + 1020 * k.toNat + 1020 ≤ j) → f1 j = f j) ∧ ∀ q : Nat, (q : Int) < v → ∃ a m c : Int, (0 ≤ a ∧ a ≤ m ∧ m ≤ c ∧ c ≤ 510) ∧ f1 (978 + 16 * k.toNat + q) = lnR (KF 1 b n) (VF b n) (lpos (KF 1 b n) (VF b n) q) ∧ f1 (1042 + 16 * k.toNat + q) = a ∧ f1 (1106 + 16 * k.toNat + q) = m ∧ f1 (1170 + 16 * k.toNat + q) = c ∧ exl (SG f1 k.toNat) a.toNat (m - a).toNat = rE (KF 1 b n) (VF b n) (lnP (KF 1 b n) (lpos (KF 1 b n) (VF b n) q)) ∧ exl (SG f1 k.toNat) m.toNat (c - m).toNat = rLb (KF 1 b n) (VF b n) (gE (KF 1 b n) (VF b n) (lnP (KF 1 b n) (lpos (KF 1 b n) (VF b n) q))).2 ∧ ∀ j : Nat, a ≤ (j : Int) → (j : Int) < c → SG f1 k.toNat (2 * j) = 0 → 0 ≤ SG f1 k.toNat (2 * j + 1)) ∧ (¬ (s = 1 ∧ (0 ≤ k ∧ k ≤ 3) ∧ e = 0) → ∀ j : Nat, 974 ≤ j → j < 5320 → f1 j = f j)
theorem TLC_n {s k : Int} {b : Nat → Int} {n : Nat} {e v : Int} {A4 A5 A6 B4 B5 B6 : Nat → Int} (h : ¬ (s = 1 ∧ (0 ≤ k ∧ k ≤ 3) ∧ e = 0)) (h4 : ∀ j : Nat, B4 j = A4 j) (h5 : ∀ j : Nat, B5 j = A5 j) (h6 : ∀ j : Nat, B6 j = A6 j) : TLC s k b n e v A4 A5 A6 B4 B5 B6 := ⟨fun z => absurd z h, fun _ j => ⟨h4 j, h5 j, h6 j⟩⟩
theorem TLC_k {s k : Int} {b : Nat → Int} {n : Nat} {e v : Int} {A4 A5 A6 B4 B5 B6 C4 C5 C6 : Nat → Int} (h : TLC s k b n e v A4 A5 A6 B4 B5 B6) (h4 : ∀ j : Nat, C4 j = B4 j) (h5 : ∀ j : Nat, C5 j = B5 j) (h6 : ∀ j : Nat, C6 j = B6 j) : TLC s k b n e v A4 A5 A6 C4 C5 C6 := by
  rw [show C4 = B4 from funext h4, show C5 = B5 from funext h5, show C6 = B6 from funext h6]; exact h
theorem TLC_v {s k : Int} {b : Nat → Int} {n : Nat} {e v e' v' : Int} {A4 A5 A6 B4 B5 B6 : Nat → Int} (h : TLC s k b n e v A4 A5 A6 B4 B5 B6) (he : e' = e) (hv : v' = v) : TLC s k b n e' v' A4 A5 A6 B4 B5 B6 := by subst he; subst hv; exact h
theorem lst_s {g g' : Nat → Int} {a a' : Nat} : ∀ n : Nat, (∀ j, j < n → g' (a' + j) = g (a + j)) → lst g' a' n = lst g a n
  | 0, _ => rfl
  | n + 1, h => by
    show lst g' a' n ++ [g' (a' + n)] = lst g a n ++ [g (a + n)]
    rw [lst_s n (fun j h1 => h j (by omega)), h _ (by omega)]
theorem TLC_y {s k : Int} {b : Nat → Int} {n : Nat} {e v v' : Int} {A4 A5 A6 A4' A5' A6' B4 B5 B6 : Nat → Int} {D : Nat → Nat → Int} (h4 : ∀ j : Nat, A4' j = A4 j) (h5 : ∀ j : Nat, A5' j = A5 j) (h6 : ∀ j : Nat, A6' j = A6 j) (q1 : ∀ q : Nat, q < 64 → B4 (64 * k.toNat + q) = D 41 q) (q2 : ∀ j : Nat, j < 64 * k.toNat ∨ 64 * k.toNat + 64 ≤ j → B4 j = A4' j) (q3 : ∀ q : Nat, q < 500 → B6 (500 * k.toNat + q) = D 42 q) (q4 : ∀ j : Nat, j < 500 * k.toNat ∨ 500 * k.toNat + 500 ≤ j → B6 j = A6' j) (q5 : B5 k.toNat = v') (q6 : ∀ j : Nat, ¬ j = k.toNat → B5 j = A5' j) (hv : v' = v) (h0 : 0 ≤ v ∧ v ≤ 16) (po : POSN (KF 1 b n) (VF b n) D v) (hl : D 35 2 = 0) (h12 : D 35 12 ≤ 500) (hs : s = 1 ∧ (0 ≤ k ∧ k ≤ 3) ∧ e = 0) : TLC s k b n e v A4 A5 A6 B4 B5 B6 := by
  subst hv
  obtain ⟨p1, p2, p3, p4⟩ := po hl
  refine ⟨fun _ => ⟨q5, h0, fun j hj => (q6 j hj).trans (h5 j), fun j hj => (q2 j hj).trans (h4 j), fun j hj => (q4 j hj).trans (h6 j), fun q hq => ?_, by omega, ?_⟩, fun z => absurd hs z⟩
  · refine LROW_k (p4 q hq) (fun j a c => ?_)
    show B4 (64 * k.toNat + j) = D 41 j
    exact q1 j (by omega)
  · rw [lst_s (g := D 42) (a := 0) _ (fun j hj => by rw [Nat.zero_add]; exact q3 j (by omega))]
    exact p3
theorem LXX_s {g g' h h' : Nat → Int} {c m m' : Int} {K V : Nat → Int} {q : Nat} (hq : (q : Int) < c + 1) (old : (q : Int) < c → LXX g h m K V q) (h0 : 0 ≤ c) (hm : 0 ≤ m ∧ m ≤ m') (kg : ∀ j : Nat, (j : Int) < 4 * c → g' j = g j) (kh : ∀ j : Nat, (j : Int) < 2 * m → h' j = h j) (nw : LXR g' h' c m m' K V (lpos K V c.toNat)) : LXX g' h' m' K V q := by
  by_cases e : (q : Int) < c
  · obtain ⟨a, b, r, x⟩ := old e
    exact ⟨a, b, by omega, LXR_k x (by omega) (by omega) (fun j _ h2 => kg j (by omega)) (fun j hj => kh j (by omega))⟩
  · have eq : q = c.toNat := by omega
    subst eq
    exact ⟨m, m', by omega, by rw [show ((c.toNat : Nat) : Int) = c by omega]; exact nw⟩
theorem TLR_n {s k : Int} {b : Nat → Int} {n : Nat} {e v : Int} {f f1 : Nat → Int} (h : ¬ (s = 1 ∧ (0 ≤ k ∧ k ≤ 3) ∧ e = 0)) (hf : ∀ j : Nat, 974 ≤ j → j < 5320 → f1 j = f j) : TLR s k b n e v f f1 := ⟨fun z => absurd z h, fun _ => hf⟩
theorem K12_at {f f1 g h : Nat → Int} {k l m : Int} (hk : ∀ j : Nat, f1 j = K2 (K1 f g k l l) h k (2 * m) j) (h0 : 0 ≤ k ∧ k ≤ 3) (hl : 0 ≤ l ∧ l ≤ 16) (hm : 0 ≤ m ∧ m ≤ 510) : f1 (974 + k.toNat) = l ∧ (∀ q : Nat, (q : Int) < l → f1 (978 + 16 * k.toNat + q) = g (4 * q) ∧ f1 (1042 + 16 * k.toNat + q) = g (4 * q + 1) ∧ f1 (1106 + 16 * k.toNat + q) = g (4 * q + 2) ∧ f1 (1170 + 16 * k.toNat + q) = g (4 * q + 3)) ∧ (∀ j : Nat, (j : Int) < 2 * m → SG f1 k.toNat j = h j) ∧ (∀ j : Nat, ¬ j = 974 + k.toNat → (∀ q : Nat, q < 4 → j < 978 + 64 * q + 16 * k.toNat ∨ 978 + 64 * q + 16 * k.toNat + 16 ≤ j) → (j < 1240 + 1020 * k.toNat ∨ 1240 + 1020 * k.toNat + 1020 ≤ j) → f1 j = f j) := by
  refine ⟨?_, fun q hq => ⟨?_, ?_, ?_, ?_⟩, fun j hj => ?_, fun j h1 h2 h3 => ?_⟩
  · rw [hk]; unfold K2 K1
    rw [if_neg (by omega), if_pos (by omega)]
  · rw [hk]; unfold K2 K1
    rw [if_neg (by omega), if_neg (by omega), if_pos (by omega)]
    congr 1; omega
  · rw [hk]; unfold K2 K1
    rw [if_neg (by omega), if_neg (by omega), if_neg (by omega), if_pos (by omega)]
    congr 1; omega
  · rw [hk]; unfold K2 K1
    rw [if_neg (by omega), if_neg (by omega), if_neg (by omega), if_neg (by omega), if_pos (by omega)]
    congr 1; omega
  · rw [hk]; unfold K2 K1
    rw [if_neg (by omega), if_neg (by omega), if_neg (by omega), if_neg (by omega), if_neg (by omega), if_pos (by omega)]
    congr 1; omega
  · unfold SG
    rw [hk]; unfold K2
    rw [if_pos (by omega)]
    congr 1; omega
  · have a0 := h2 0 (by decide)
    have a1 := h2 1 (by decide)
    have a2 := h2 2 (by decide)
    have a3 := h2 3 (by decide)
    rw [hk]; unfold K2 K1
    rw [if_neg (by omega), if_neg (by omega), if_neg (by omega), if_neg (by omega), if_neg (by omega), if_neg (by omega)]
theorem TLR_y {s k : Int} {b : Nat → Int} {n : Nat} {e v l m : Int} {f f0 f1 g h : Nat → Int} (h0 : ∀ j : Nat, f0 j = f j) (hk : ∀ j : Nat, f1 j = K2 (K1 f0 g k l l) h k (2 * m) j) (hl : 0 ≤ l ∧ l ≤ 16) (hm : 0 ≤ m ∧ m ≤ 510) (hv : v = l) (hx : ∀ q : Nat, (q : Int) < l → LXX g h m (KF 1 b n) (VF b n) q) (hs : s = 1 ∧ (0 ≤ k ∧ k ≤ 3) ∧ e = 0) : TLR s k b n e v f f1 := by
  subst hv
  obtain ⟨k1, k2, k3, k4⟩ := K12_at hk hs.2.1 hl hm
  refine ⟨fun _ => ⟨k1, fun j a b c => (k4 j a b c).trans (h0 j), fun q hq => ?_⟩, fun z => absurd hs z⟩
  obtain ⟨a, c, r, x⟩ := hx q hq
  obtain ⟨x1, x2, x3, x4, x5, x6, x7⟩ := x
  obtain ⟨r1, r2, r3, r4⟩ := k2 q hq
  rw [show (4 * (q : Int)).toNat = 4 * q by omega] at x1
  rw [show ((4 * (q : Int)) + 1).toNat = 4 * q + 1 by omega] at x2
  rw [show ((4 * (q : Int)) + 3).toNat = 4 * q + 3 by omega] at x3
  rw [show ((4 * (q : Int)) + 2).toNat = 4 * q + 2 by omega] at x4 x5 x6
  refine ⟨a, g (4 * q + 2), c, ⟨r.1, x4.1, x4.2, by omega⟩, by rw [r1]; exact x1, by rw [r2]; exact x2, r3, by rw [r4]; exact x3, ?_, ?_, fun j p1 p2 => by rw [k3 _ (by omega), k3 _ (by omega)]; exact x7 j p1 p2⟩
  · rw [exl_c (g := h) _ (fun j p1 p2 => k3 j (by omega))]; exact x5
  · rw [exl_c (g := h) _ (fun j p1 p2 => k3 j (by omega))]; exact x6
theorem K0_974 {f f' g : Nat → Int} {k n i : Int} {j : Nat} (h : ∀ j : Nat, f' j = K0 f g k n i j) (hk : 0 ≤ k ∧ k ≤ 7) (hi : i ≤ 120) (hj : 974 ≤ j) : f' j = f j := by
  rw [h j]; unfold K0; rw [if_neg (by omega), if_neg (by omega)]
theorem K2_974 {f f' g h : Nat → Int} {k n i m : Int} {j : Nat} (z : ∀ j : Nat, f' j = K2 (K1 f g k n m) h k i j) (hk : 0 ≤ k ∧ k ≤ 3) (hi : i ≤ 1020) (hm : m ≤ 16) (hj : j < 974) : f' j = f j := by
  rw [z j]; unfold K2 K1; rw [if_neg (by omega), if_neg (by omega), if_neg (by omega), if_neg (by omega), if_neg (by omega), if_neg (by omega)]
