/-! what RULES say to a QUESTION (k its sort, x W or the PICTURE, t T, v V), where a SCENE has come to W -/
def RUL (W : WD) (k x t v r : Int) : Int :=
  if k = 1 then (if r = 0 ∨ r = 5 then W 3 t.toNat else if r = 4 then W 4 t.toNat else if r = 7 then W 5 t.toNat else W 7 (3 * x.toNat + t.toNat))
  else if r = 0 then W 3 t.toNat
  else if r = 2 then W 9 (3 * x.toNat + t.toNat)
  else if r = 3 then W 10 (3 * x.toNat + t.toNat)
  else if r = 4 then (if W 11 (3 * x.toNat + t.toNat) = 1 then W 3 t.toNat else W 4 t.toNat)
  else if r = 5 then (if v = -1 then W 3 t.toNat else W 8 (3 * v.toNat + t.toNat))
  else if r = 6 then (if v = -1 then W 8 (3 * x.toNat + t.toNat) else W 12 (12 * v.toNat + 3 * x.toNat + t.toNat))
  else if r = 7 then W 5 t.toNat
  else W 8 (3 * x.toNat + t.toNat)
/-- all that is kept beside a QUESTION: 0 .. 7 the RULES, 8 RIGHT, 9 whether it TELLS something, 10 MOVES -/
def SDW (W : WD) (k x t v r : Int) : Int :=
  if r ≤ 8 then RUL W k x t v r else if r = 9 then (if RUL W k x t v 8 = RUL W k x t v 0 then 0 else 1) else W 6 0 + W 6 1 + W 6 2
theorem RUL_8 {W : WD} {k x t v : Int} : RUL W k x t v 1 = RUL W k x t v 8 := by
  unfold RUL
  by_cases c : k = 1
  · rw [if_pos c, if_pos c]
    rw [if_neg (by decide), if_neg (by decide), if_neg (by decide), if_neg (by decide), if_neg (by decide), if_neg (by decide)]
  · rw [if_neg c, if_neg c]
    rw [if_neg (by decide), if_neg (by decide), if_neg (by decide), if_neg (by decide), if_neg (by decide), if_neg (by decide), if_neg (by decide), if_neg (by decide), if_neg (by decide), if_neg (by decide), if_neg (by decide), if_neg (by decide), if_neg (by decide), if_neg (by decide)]
theorem RUL_v {W : WD} {k x t v v' r : Int} (h : ¬ k = 1 → v = v') : RUL W k x t v r = RUL W k x t v' r := by
  by_cases c : k = 1
  · unfold RUL; rw [if_pos c, if_pos c]
  · rw [h c]
theorem SDW_v {W : WD} {k x t v v' r : Int} (h : ¬ k = 1 → v = v') : SDW W k x t v r = SDW W k x t v' r := by
  unfold SDW
  rw [RUL_v (r := r) h, RUL_v (r := 8) h, RUL_v (r := 0) h]
/-- by the reference's array -/
def SAID (f : Nat → Int) (q : Nat) (r : Int) : Int := SDW (wend f (f (5320 + 5 * q))) (f (5320 + 5 * q + 1)) (f (5320 + 5 * q + 2)) (f (5320 + 5 * q + 3)) (f (5320 + 5 * q + 4)) r
/-- QUESTIONS alike: A the class's rows -/
def QRL (A f : Nat → Int) : Prop := ∀ q : Nat, (q : Int) < f 1 → A (5 * q) = f (5320 + 5 * q) ∧ A (5 * q + 1) = f (5320 + 5 * q + 1) ∧ A (5 * q + 2) = f (5320 + 5 * q + 2) ∧ A (5 * q + 3) = f (5320 + 5 * q + 3) ∧ (¬ f (5320 + 5 * q + 1) = 1 → A (5 * q + 4) = f (5320 + 5 * q + 4)) ∧ (f (5320 + 5 * q + 1) = 1 → A (5 * q + 4) = -1)
/-- what is kept beside them -/
def SDL (A f : Nat → Int) : Prop := ∀ q : Nat, (q : Int) < f 1 → ∀ r : Nat, r ≤ 10 → A (11 * q + r) = SAID f q (r : Int)
theorem wpl_c {f f1 : Nat → Int} {o : Nat} : ∀ n : Nat, (∀ j, o ≤ j → j < o + 5 * n → f1 j = f j) → wpl f1 o n = wpl f o n
  | 0, _ => rfl
  | n + 1, h => by
    show wact (wpl f1 o n) _ _ _ _ _ = wact (wpl f o n) _ _ _ _ _
    rw [wpl_c n (fun j h1 h2 => h j h1 (by omega)), h _ (by omega) (by omega), h _ (by omega) (by omega), h _ (by omega) (by omega), h _ (by omega) (by omega), h _ (by omega) (by omega)]
theorem wend_c {f f1 : Nat → Int} {k : Int} (hk : 0 ≤ k ∧ k ≤ 7) (hb : f (6 + k).toNat ≤ 24) (e : f1 (6 + k).toNat = f (6 + k).toNat) (h : ∀ j : Nat, 14 + 120 * k.toNat ≤ j → j < 14 + 120 * k.toNat + 120 → f1 j = f j) : wend f1 k = wend f k := by
  unfold wend
  rw [e]
  exact wpl_c _ (fun j h1 h2 => h j h1 (by omega))
theorem wact_u {W : WD} {act a x t b v a' x' t' b' v' : Int} (h : ADEC act a x t b v) (h' : ADEC act a' x' t' b' v') : wact W a' x'.toNat t'.toNat b' v'.toNat = wact W a x.toNat t.toNat b v.toNat := by
  obtain ⟨h0, h1, _, h3, h4, h5, h6, h7, h8⟩ := h
  obtain ⟨g0, g1, _, g3, g4, g5, g6, g7, g8⟩ := h'
  have ea : a' = a := by rw [← h0, ← g0]
  subst ea
  have ex : x' = x := by
    by_cases c : a' = 8
    · rw [← h4 c, ← g4 c]
    · rw [← h3 c, ← g3 c]
  subst ex
  unfold wact
  by_cases c2 : a' = 2
  · have et : t' = t := (g5 (by omega)).symm.trans (h5 (by omega))
    have eb : b' = b := (g6 (by omega)).symm.trans (h6 (by omega))
    subst c2
    rw [et, eb]
    simp
  by_cases c3 : a' = 3
  · have et : t' = t := (g5 (by omega)).symm.trans (h5 (by omega))
    have eb : b' = b := (g6 (by omega)).symm.trans (h6 (by omega))
    subst c3
    rw [et, eb]
    simp
  by_cases c4 : a' = 4
  · have et : t' = t := (g5 (by omega)).symm.trans (h5 (by omega))
    have eb : b' = b := (g6 (by omega)).symm.trans (h6 (by omega))
    have ev : v' = v := (g8 (by omega)).1.symm.trans (h8 (by omega)).1
    rw [et, eb, ev]
  by_cases c5 : a' = 5
  · have eb : b' = b := (g6 (by omega)).symm.trans (h6 (by omega))
    subst c5
    rw [eb]
    simp
  by_cases c6 : a' = 6
  · have eb : b' = b := (g7 (by omega)).symm.trans (h7 (by omega))
    subst c6
    rw [eb]
    simp
  rw [if_neg c2, if_neg c3, if_neg c4, if_neg c5, if_neg c6, if_neg c2, if_neg c3, if_neg c4, if_neg c5, if_neg c6]
theorem wpl_u {A f f1 : Nat → Int} {o oA : Nat} : ∀ n : Nat, (∀ i, i < n → ADEC (A (oA + i)) (f (o + 5 * i)) (f (o + 5 * i + 1)) (f (o + 5 * i + 2)) (f (o + 5 * i + 3)) (f (o + 5 * i + 4))) → (∀ i, i < n → ADEC (A (oA + i)) (f1 (o + 5 * i)) (f1 (o + 5 * i + 1)) (f1 (o + 5 * i + 2)) (f1 (o + 5 * i + 3)) (f1 (o + 5 * i + 4))) → wpl f1 o n = wpl f o n
  | 0, _, _ => rfl
  | n + 1, h, h1 => by
    show wact (wpl f1 o n) _ _ _ _ _ = wact (wpl f o n) _ _ _ _ _
    rw [wpl_u n (fun i hi => h i (by omega)) (fun i hi => h1 i (by omega))]
    exact wact_u (h n (by omega)) (h1 n (by omega))
/-- the world is what the class's acts make it -/
theorem wend_u {A C f f1 : Nat → Int} {k : Int} (h : SCL A C f) (h1 : SCL A C f1) (hk : 0 ≤ k ∧ k ≤ 7) : wend f1 k = wend f k := by
  have z := h k.toNat (by omega)
  have z1 := h1 k.toNat (by omega)
  have e : f1 (6 + k.toNat) = f (6 + k.toNat) := by rw [← z.1, ← z1.1]
  unfold wend
  rw [show (6 + k).toNat = 6 + k.toNat by omega, e]
  exact wpl_u (A := A) (oA := 24 * k.toNat) _ (fun i hi => z.2 i (by omega)) (fun i hi => z1.2 i (by rw [e]; omega))
/-- an array that says what the class's acts of scene k say -/
def DGA (A : Nat → Int) (k : Nat) (j : Nat) : Int :=
  if j % 5 = 0 then am_and (A (24 * k + j / 5)) 15
  else if j % 5 = 1 then (if am_and (A (24 * k + j / 5)) 15 = 8 then am_and (am_shr (A (24 * k + j / 5)) 13) 1 else am_and (am_shr (A (24 * k + j / 5)) 4) 3)
  else if j % 5 = 2 then am_and (am_shr (A (24 * k + j / 5)) 8) 3
  else if j % 5 = 3 then (if am_and (A (24 * k + j / 5)) 15 = 6 then am_and (am_shr (A (24 * k + j / 5)) 12) 1 else am_and (am_shr (A (24 * k + j / 5)) 10) 3)
  else am_and (am_shr (A (24 * k + j / 5)) 6) 3
theorem DGA_d {A : Nat → Int} {k i : Nat} {a x t b v : Int} (h : ADEC (A (24 * k + i)) a x t b v) : ADEC (A (24 * k + i)) (DGA A k (5 * i)) (DGA A k (5 * i + 1)) (DGA A k (5 * i + 2)) (DGA A k (5 * i + 3)) (DGA A k (5 * i + 4)) := by
  obtain ⟨h0, h1, h2, h3, h4, h5, h6, h7, h8⟩ := h
  have e0 : DGA A k (5 * i) = am_and (A (24 * k + i)) 15 := by
    unfold DGA; rw [if_pos (by omega), show 5 * i / 5 = i by omega]
  have e1 : DGA A k (5 * i + 1) = (if am_and (A (24 * k + i)) 15 = 8 then am_and (am_shr (A (24 * k + i)) 13) 1 else am_and (am_shr (A (24 * k + i)) 4) 3) := by
    unfold DGA; rw [if_neg (by omega), if_pos (by omega), show (5 * i + 1) / 5 = i by omega]
  have e2 : DGA A k (5 * i + 2) = am_and (am_shr (A (24 * k + i)) 8) 3 := by
    unfold DGA; rw [if_neg (by omega), if_neg (by omega), if_pos (by omega), show (5 * i + 2) / 5 = i by omega]
  have e3 : DGA A k (5 * i + 3) = (if am_and (A (24 * k + i)) 15 = 6 then am_and (am_shr (A (24 * k + i)) 12) 1 else am_and (am_shr (A (24 * k + i)) 10) 3) := by
    unfold DGA; rw [if_neg (by omega), if_neg (by omega), if_neg (by omega), if_pos (by omega), show (5 * i + 3) / 5 = i by omega]
  have e4 : DGA A k (5 * i + 4) = am_and (am_shr (A (24 * k + i)) 6) 3 := by
    unfold DGA; rw [if_neg (by omega), if_neg (by omega), if_neg (by omega), if_neg (by omega), show (5 * i + 4) / 5 = i by omega]
  unfold ADEC
  rw [e0, e1, e2, e3, e4, h0]
  refine ⟨rfl, h1, h2, fun c => by rw [if_neg c], fun c => by rw [if_pos c], fun _ => rfl, fun c => by rw [if_neg (by omega)], fun c => by rw [if_pos c], fun c => ⟨rfl, ?_⟩⟩
  rw [if_neg (by omega), h3 (by omega), (h8 c).1]
  exact (h8 c).2
theorem DGA_o {A : Nat → Int} {k i : Nat} {a x t b v : Int} (h : ADEC (A (24 * k + i)) a x t b v) : aOK (DGA A k (5 * i)) (DGA A k (5 * i + 1)) (DGA A k (5 * i + 2)) (DGA A k (5 * i + 3)) (DGA A k (5 * i + 4)) := by
  have hd := DGA_d h
  obtain ⟨_, g1, g2, g3, g4, g5, g6, g7, g8⟩ := hd
  have r3 : ∀ z : Int, 0 ≤ am_and z 3 ∧ am_and z 3 ≤ 3 := fun z => and_R3
  have r1 : ∀ z : Int, 0 ≤ am_and z 1 ∧ am_and z 1 ≤ 1 := fun z => and_R1
  have b4 := r3 (am_shr (A (24 * k + i)) 4)
  have b6 := r3 (am_shr (A (24 * k + i)) 6)
  have b8 := r3 (am_shr (A (24 * k + i)) 8)
  have b10 := r3 (am_shr (A (24 * k + i)) 10)
  have b12 := r1 (am_shr (A (24 * k + i)) 12)
  have b13 := r1 (am_shr (A (24 * k + i)) 13)
  unfold aOK
  refine ⟨g1, ?_, fun c => ?_, fun c => ?_, fun c => ?_, fun c => ?_, fun c => ?_⟩
  · by_cases c : DGA A k (5 * i) = 8
    · have := g4 c; omega
    · have := g3 c; omega
  · have := g4 c; omega
  · have := g5 c; omega
  · have := g6 c; omega
  · have := (g8 c).1; omega
  · have := g7 c; omega
/-- the reference's array as it would be with the class's new scene k -/
def TFS (f A : Nat → Int) (k v : Int) : Nat → Int := K0 f (DGA A k.toNat) k v (5 * v)
theorem TFS_S {A C A1 C1 f : Nat → Int} {s k e v : Int} {b : Nat → Int} {n : Nat} (h : SCL A C f) (hM : MW f) (x : TSA s k b n e v A C A1 C1) (c : s = 0 ∧ (0 ≤ k ∧ k ≤ 7) ∧ e = 0) : SCL A1 C1 (TFS f A1 k v) ∧ MW (TFS f A1 k v) := by
  obtain ⟨x1, x2, x3, x4, x5⟩ := x.1 c
  have hk := c.2.1
  have hb : ∀ m, m < 8 → f (6 + m) ≤ 24 := fun m hm => (hM.1.2.2.2.2.2.1 m hm).2
  refine ⟨fun m hm => ?_, MW_K0 hM (fun j => rfl) hk x2 (fun i hi => DGA_o (x5 i hi)) rfl⟩
  by_cases em : m = k.toNat
  · subst em
    have e6 : TFS f A1 k v (6 + k.toNat) = v := by unfold TFS K0; rw [if_pos (by omega)]
    refine ⟨by rw [e6, x1], fun i hi => ?_⟩
    rw [e6] at hi
    have ej : ∀ c, c < 5 → TFS f A1 k v (14 + 120 * k.toNat + 5 * i + c) = DGA A1 k.toNat (5 * i + c) := fun c hc => by
      unfold TFS K0
      rw [if_neg (by omega), if_pos (by omega)]
      congr 1; omega
    rw [ej 1 (by decide), ej 2 (by decide), ej 3 (by decide), ej 4 (by decide), show TFS f A1 k v (14 + 120 * k.toNat + 5 * i) = DGA A1 k.toNat (5 * i) from ej 0 (by decide)]
    exact DGA_d (x5 i hi)
  · have z := h m hm
    have hb' := hb m hm
    have o : ∀ j : Nat, ¬ j = 6 + k.toNat → (j < 14 + 120 * k.toNat ∨ 14 + 120 * k.toNat + 120 ≤ j) → TFS f A1 k v j = f j := fun j h1 h2 => by
      unfold TFS K0
      rw [if_neg (by omega), if_neg (by omega)]
    rw [o (6 + m) (by omega) (by omega)]
    refine ⟨by rw [x3 m em, z.1], fun i hi => ?_⟩
    rw [x4 _ (by omega), o _ (by omega) (by omega), o _ (by omega) (by omega), o _ (by omega) (by omega), o _ (by omega) (by omega), o _ (by omega) (by omega)]
    exact z.2 i hi
/-- settling: QUESTIONS ahead of l that ask of scene s say what W says; all others stand as they stood -/
def SAL (B B1 A : Nat → Int) (W : WD) (s l : Int) : Prop := ∀ q : Nat, q < 12 → ∀ r : Nat, r ≤ 10 → B1 (11 * q + r) = if (q : Int) < l ∧ A (5 * q) = s then SDW W (A (5 * q + 1)) (A (5 * q + 2)) (A (5 * q + 3)) (A (5 * q + 4)) (r : Int) else B (11 * q + r)
theorem SAL_0 {B A : Nat → Int} {W : WD} {s : Int} : SAL B B A W s 0 := fun q _ r _ => by rw [if_neg (by omega)]
theorem SAL_y {B B1 B2 A : Nat → Int} {W : WD} {s l : Int} (h : SAL B B1 A W s l) (h0 : 0 ≤ l ∧ l < 12) (c : A (5 * l.toNat) = s) (k1 : ∀ r : Nat, r ≤ 10 → B2 (11 * l.toNat + r) = SDW W (A (5 * l.toNat + 1)) (A (5 * l.toNat + 2)) (A (5 * l.toNat + 3)) (A (5 * l.toNat + 4)) (r : Int)) (k2 : ∀ j : Nat, (j < 11 * l.toNat ∨ 11 * l.toNat + 11 ≤ j) → B2 j = B1 j) : SAL B B2 A W s (l + 1) := by
  intro q hq r hr
  by_cases e : q = l.toNat
  · subst e
    rw [k1 r hr, if_pos ⟨by omega, c⟩]
  · rw [k2 _ (by omega), h q hq r hr]
    by_cases c2 : (q : Int) < l ∧ A (5 * q) = s
    · rw [if_pos c2, if_pos ⟨by omega, c2.2⟩]
    · rw [if_neg c2, if_neg (fun z => c2 ⟨by omega, z.2⟩)]
theorem SAL_n {B B1 A : Nat → Int} {W : WD} {s l : Int} (h : SAL B B1 A W s l) (h0 : 0 ≤ l) (c : ¬ A (5 * l.toNat) = s) : SAL B B1 A W s (l + 1) := by
  intro q hq r hr
  rw [h q hq r hr]
  by_cases e : q = l.toNat
  · subst e
    rw [if_neg (fun z => c z.2), if_neg (fun z => c z.2)]
  · by_cases c2 : (q : Int) < l ∧ A (5 * q) = s
    · rw [if_pos c2, if_pos ⟨by omega, c2.2⟩]
    · rw [if_neg c2, if_neg (fun z => c2 ⟨by omega, z.2⟩)]
theorem SAL_e {B B1 A : Nat → Int} {W : WD} {s l n : Int} (h : SAL B B1 A W s l) (e : l = n) : SAL B B1 A W s n := by subst e; exact h
/-- a class's row of a QUESTION -/
def qOC (s k x t v : Int) : Prop := (0 ≤ s ∧ s ≤ 7) ∧ (0 ≤ k ∧ k ≤ 1) ∧ (0 ≤ x ∧ x ≤ 3) ∧ (0 ≤ t ∧ t ≤ 2) ∧ (-1 ≤ v ∧ v ≤ 3) ∧ (k = 1 → x ≤ 1 ∧ v = -1)
def QOC (A : Nat → Int) (n : Int) : Prop := ∀ q : Nat, (q : Int) < n → qOC (A (5 * q)) (A (5 * q + 1)) (A (5 * q + 2)) (A (5 * q + 3)) (A (5 * q + 4))
theorem QOC_at {A : Nat → Int} {n q : Int} (h : QOC A n) (h0 : 0 ≤ q) (h1 : q < n) : qOC (A ((q * 5) + 0).toNat) (A ((q * 5) + 1).toNat) (A ((q * 5) + 2).toNat) (A ((q * 5) + 3).toNat) (A ((q * 5) + 4).toNat) := by
  have z := h q.toNat (by omega)
  rw [show ((q * 5) + 0).toNat = 5 * q.toNat by omega, show ((q * 5) + 1).toNat = 5 * q.toNat + 1 by omega, show ((q * 5) + 2).toNat = 5 * q.toNat + 2 by omega, show ((q * 5) + 3).toNat = 5 * q.toNat + 3 by omega, show ((q * 5) + 4).toNat = 5 * q.toNat + 4 by omega]
  exact z
theorem QOC_R {A f : Nat → Int} {n : Int} (h : QRL A f) (hM : MW f) (e : n = f 1) : QOC A n := by
  intro q hq
  have hn := hM.1.1
  have z := h q (by omega)
  have m := hM.2.2.2.1 q (by omega)
  obtain ⟨z0, z1, z2, z3, z4, z5⟩ := z
  obtain ⟨m0, m1, m2, m3, m4, m5⟩ := m
  unfold qOC
  rw [z0, z1, z2, z3]
  refine ⟨m0, m1, m2, m3, ?_, fun c => ⟨m5 c, z5 c⟩⟩
  by_cases c : f (5320 + 5 * q + 1) = 1
  · have := z5 c; omega
  · have := z4 c; have := m4 (by omega); omega
theorem VC_frS {S : List Nat} {o : Nat} {D D1 : Nat → Nat → Int} (h : Fr S D D1) (hs : ∀ f, f < 13 → (o + f) ∉ S) : VC o D1 = VC o D := VC_fr (fun f hf j => h (o + f) (hs f hf) j)
/-- the row of a QUESTION that was settled -/
def STL (B1 A : Nat → Int) (W : WD) (q : Int) (l : Int) : Prop := ∀ r : Nat, (r : Int) < l → B1 (11 * q.toNat + r) = SDW W (A ((q * 5) + 1).toNat) (A ((q * 5) + 2).toNat) (A ((q * 5) + 3).toNat) (A ((q * 5) + 4).toNat) (r : Int)
theorem STL_0 {B1 A : Nat → Int} {W : WD} {q : Int} : STL B1 A W q 0 := fun r hr => by omega
theorem STL_s {B1 B2 A : Nat → Int} {W : WD} {q l x : Int} {i : Nat} (h : STL B1 A W q l) (hq : 0 ≤ q) (hl : 0 ≤ l ∧ l ≤ 8) (hi : i = ((q * 11) + l).toNat) (k1 : B2 i = x) (hx : x = RUL W (A ((q * 5) + 1).toNat) (A ((q * 5) + 2).toNat) (A ((q * 5) + 3).toNat) (A ((q * 5) + 4).toNat) l) (k2 : ∀ j : Nat, ¬ j = i → B2 j = B1 j) : STL B2 A W q (l + 1) := by
  subst hi
  intro r hr
  by_cases e : (r : Int) = l
  · rw [show 11 * q.toNat + r = ((q * 11) + l).toNat by omega, k1, hx]
    unfold SDW
    rw [if_pos (by omega), e]
  · rw [k2 _ (by omega)]; exact h r (by omega)
theorem STL_9 {B1 B2 A : Nat → Int} {W : WD} {q x : Int} {i : Nat} (h : STL B1 A W q 9) (hq : 0 ≤ q) (hi : i = ((q * 11) + 9).toNat) (k1 : B2 i = x) (hx : (B1 (11 * q.toNat + 8) = B1 (11 * q.toNat + 0) → x = 0) ∧ (¬ B1 (11 * q.toNat + 8) = B1 (11 * q.toNat + 0) → x = 1)) (k2 : ∀ j : Nat, ¬ j = i → B2 j = B1 j) : STL B2 A W q 10 := by
  subst hi
  intro r hr
  by_cases e : (r : Int) = 9
  · rw [show 11 * q.toNat + r = ((q * 11) + 9).toNat by omega, k1, e]
    have h8 := h 8 (by omega)
    have h0 := h 0 (by omega)
    have g8 : SDW W (A ((q * 5) + 1).toNat) (A ((q * 5) + 2).toNat) (A ((q * 5) + 3).toNat) (A ((q * 5) + 4).toNat) ((8 : Nat) : Int) = RUL W (A ((q * 5) + 1).toNat) (A ((q * 5) + 2).toNat) (A ((q * 5) + 3).toNat) (A ((q * 5) + 4).toNat) 8 := by unfold SDW; rw [if_pos (by omega)]; rfl
    have g0 : SDW W (A ((q * 5) + 1).toNat) (A ((q * 5) + 2).toNat) (A ((q * 5) + 3).toNat) (A ((q * 5) + 4).toNat) ((0 : Nat) : Int) = RUL W (A ((q * 5) + 1).toNat) (A ((q * 5) + 2).toNat) (A ((q * 5) + 3).toNat) (A ((q * 5) + 4).toNat) 0 := by unfold SDW; rw [if_pos (by omega)]; rfl
    rw [g8] at h8
    rw [g0] at h0
    rw [h8, h0] at hx
    unfold SDW
    rw [if_neg (by decide), if_pos rfl]
    by_cases c : RUL W (A ((q * 5) + 1).toNat) (A ((q * 5) + 2).toNat) (A ((q * 5) + 3).toNat) (A ((q * 5) + 4).toNat) 8 = RUL W (A ((q * 5) + 1).toNat) (A ((q * 5) + 2).toNat) (A ((q * 5) + 3).toNat) (A ((q * 5) + 4).toNat) 0
    · rw [if_pos c]; exact hx.1 c
    · rw [if_neg c]; exact hx.2 c
  · rw [k2 _ (by omega)]; exact h r (by omega)
theorem STL_10 {B1 B2 A : Nat → Int} {W : WD} {q x : Int} {i : Nat} (h : STL B1 A W q 10) (hq : 0 ≤ q) (hi : i = ((q * 11) + 10).toNat) (k1 : B2 i = x) (hx : x = W 6 0 + W 6 1 + W 6 2) (k2 : ∀ j : Nat, ¬ j = i → B2 j = B1 j) : STL B2 A W q 11 := by
  subst hi
  intro r hr
  by_cases e : (r : Int) = 10
  · rw [show 11 * q.toNat + r = ((q * 11) + 10).toNat by omega, k1, e, hx]
    unfold SDW
    rw [if_neg (by decide), if_neg (by decide)]
  · rw [k2 _ (by omega)]; exact h r (by omega)
theorem STL_A {B1 A : Nat → Int} {W : WD} {q : Int} (h : STL B1 A W q 11) (hq : 0 ≤ q) : ∀ r : Nat, r ≤ 10 → B1 (11 * q.toNat + r) = SDW W (A (5 * q.toNat + 1)) (A (5 * q.toNat + 2)) (A (5 * q.toNat + 3)) (A (5 * q.toNat + 4)) (r : Int) := by
  intro r hr
  have z := h r (by omega)
  rw [show ((q * 5) + 1).toNat = 5 * q.toNat + 1 by omega, show ((q * 5) + 2).toNat = 5 * q.toNat + 2 by omega, show ((q * 5) + 3).toNat = 5 * q.toNat + 3 by omega, show ((q * 5) + 4).toNat = 5 * q.toNat + 4 by omega] at z
  exact z
theorem QOC_a {A A1 : Nat → Int} {n s k x t v : Int} (h : QOC A n) (h0 : 0 ≤ n) (kp : ∀ j : Nat, (j : Int) < 5 * n → A1 j = A j) (e0 : A1 (((n) * 5) + 0).toNat = s) (e1 : A1 (((n) * 5) + 1).toNat = k) (e2 : A1 (((n) * 5) + 2).toNat = x) (e3 : A1 (((n) * 5) + 3).toNat = t) (e4 : A1 (((n) * 5) + 4).toNat = v) (hr : qOC s k x t v) : QOC A1 (n + 1) := by
  intro q hq
  by_cases e : (q : Int) = n
  · subst e
    rw [show 5 * q = ((((q : Nat) : Int) * 5) + 0).toNat by omega, show ((((q : Nat) : Int) * 5) + 0).toNat + 1 = ((((q : Nat) : Int) * 5) + 1).toNat by omega, show ((((q : Nat) : Int) * 5) + 0).toNat + 2 = ((((q : Nat) : Int) * 5) + 2).toNat by omega, show ((((q : Nat) : Int) * 5) + 0).toNat + 3 = ((((q : Nat) : Int) * 5) + 3).toNat by omega, show ((((q : Nat) : Int) * 5) + 0).toNat + 4 = ((((q : Nat) : Int) * 5) + 4).toNat by omega, e0, e1, e2, e3, e4]
    exact hr
  · have z := h q (by omega)
    rw [kp _ (by omega), kp _ (by omega), kp _ (by omega), kp _ (by omega), kp _ (by omega)]
    exact z
/-- the QUESTIONS that part two RULES -/
def PTB (S : Nat → Int → Int) (a b : Int) : Nat → Int
  | 0 => 0
  | q + 1 => am_or (PTB S a b q) (if S q a = S q b then 0 else am_shl 1 (q : Int))
theorem PTB_y {S : Nat → Int → Int} {a b l q : Int} (h : l = PTB S a b q.toNat) (hq : 0 ≤ q) (c : ¬ S q.toNat a = S q.toNat b) : am_or l (am_shl 1 q) = PTB S a b (q + 1).toNat := by
  rw [show (q + 1).toNat = q.toNat + 1 by omega]
  show _ = am_or (PTB S a b q.toNat) (if S q.toNat a = S q.toNat b then 0 else am_shl 1 ((q.toNat : Nat) : Int))
  rw [if_neg c, ← h, show ((q.toNat : Nat) : Int) = q by omega]
theorem PTB_n {S : Nat → Int → Int} {a b l q : Int} (h : l = PTB S a b q.toNat) (hq : 0 ≤ q) (c : S q.toNat a = S q.toNat b) : am_or l 0 = PTB S a b (q + 1).toNat := by
  rw [show (q + 1).toNat = q.toNat + 1 by omega]
  show _ = am_or (PTB S a b q.toNat) (if S q.toNat a = S q.toNat b then 0 else am_shl 1 ((q.toNat : Nat) : Int))
  rw [if_pos c, ← h]
theorem PTB_c {S S' : Nat → Int → Int} {a b : Int} : ∀ n : Nat, (∀ q, q < n → S q a = S' q a ∧ S q b = S' q b) → PTB S a b n = PTB S' a b n
  | 0, _ => rfl
  | n + 1, h => by
    show am_or (PTB S a b n) _ = am_or (PTB S' a b n) _
    rw [PTB_c n (fun q hq => h q (by omega)), (h n (by omega)).1, (h n (by omega)).2]
theorem PTB_s {S : Nat → Int → Int} {a b : Int} : ∀ n : Nat, PTB S a b n = PTB S b a n
  | 0 => rfl
  | n + 1 => by
    show am_or (PTB S a b n) (if S n a = S n b then 0 else am_shl 1 (n : Int)) = am_or (PTB S b a n) (if S n b = S n a then 0 else am_shl 1 (n : Int))
    rw [PTB_s n]
    by_cases c : S n a = S n b
    · rw [if_pos c, if_pos c.symm]
    · rw [if_neg c, if_neg (fun z => c z.symm)]
/-- what the class keeps, as a function -/
def SDC (A : Nat → Int) (q : Nat) (r : Int) : Int := A (11 * q + r.toNat)
theorem SDL_c {A f : Nat → Int} (h : SDL A f) {q : Nat} {r : Int} (hq : (q : Int) < f 1) (hr : 0 ≤ r ∧ r ≤ 10) : SDC A q r = SAID f q r := by
  unfold SDC
  rw [h q hq r.toNat (by omega), show ((r.toNat : Nat) : Int) = r by omega]
theorem PTB_L {A f : Nat → Int} {a b n : Int} (h : SDL A f) (ha : 0 ≤ a ∧ a ≤ 7) (hb : 0 ≤ b ∧ b ≤ 7) (hn : n = f 1) : PTB (SDC A) a b n.toNat = PTB (SAID f) a b n.toNat :=
  PTB_c _ (fun q hq => ⟨SDL_c h (by omega) (by omega), SDL_c h (by omega) (by omega)⟩)
theorem SAID_r {f : Nat → Int} {q : Nat} {r : Int} (hr : r ≤ 8) : SAID f q r = RUL (wend f (f (5320 + 5 * q))) (f (5320 + 5 * q + 1)) (f (5320 + 5 * q + 2)) (f (5320 + 5 * q + 3)) (f (5320 + 5 * q + 4)) r := by
  unfold SAID SDW; rw [if_pos hr]
theorem SAID_1 {f : Nat → Int} {q : Nat} : SAID f q 8 = SAID f q 1 := by
  rw [SAID_r (by decide), SAID_r (by decide)]; exact RUL_8.symm
theorem SAID_9 {f : Nat → Int} {q : Nat} : SAID f q 9 = if SAID f q 8 = SAID f q 0 then 0 else 1 := by
  rw [SAID_r (r := 8) (by decide), SAID_r (r := 0) (by decide)]
  unfold SAID SDW
  rw [if_neg (by decide), if_pos rfl]
/-- the reference's rows of QUESTIONS and SCENES stand: what is said stands -/
theorem SAID_k {f f1 : Nat → Int} {q : Nat} {r : Int} (hM : MW f) (hq : q < 12) (h1 : ∀ j : Nat, 6 ≤ j → j < 974 → f1 j = f j) (h2 : ∀ j : Nat, 5320 + 5 * q ≤ j → j < 5320 + 5 * q + 5 → f1 j = f j) : SAID f1 q r = SAID f q r := by
  have m := (hM.2.2.2.1 q hq).1
  have hb : f (6 + f (5320 + 5 * q)).toNat ≤ 24 := (MW_am hM (f (5320 + 5 * q)) ⟨m.1, m.2⟩).2
  unfold SAID
  rw [h2 (5320 + 5 * q) (by omega) (by omega), h2 (5320 + 5 * q + 1) (by omega) (by omega), h2 (5320 + 5 * q + 2) (by omega) (by omega), h2 (5320 + 5 * q + 3) (by omega) (by omega), h2 (5320 + 5 * q + 4) (by omega) (by omega), wend_c (f := f) (f1 := f1) m hb (h1 _ (by omega) (by omega)) (fun j a b => h1 j (by omega) (by omega))]
theorem SDL_k {A A1 f f1 : Nat → Int} (h : SDL A f) (hM : MW f) (hA : ∀ j : Nat, j < 132 → A1 j = A j) (hn : f1 1 = f 1) (h1 : ∀ j : Nat, 6 ≤ j → j < 974 → f1 j = f j) (h2 : ∀ j : Nat, 5320 ≤ j → j < 5380 → f1 j = f j) : SDL A1 f1 := by
  have b1 := hM.1.1
  intro q hq r hr
  rw [hn] at hq
  rw [hA _ (by omega), h q hq r hr, SAID_k hM (by omega) h1 (fun j a b => h2 j (by omega) (by omega))]
theorem QRL_k {A A1 f f1 : Nat → Int} (h : QRL A f) (hM : MW f) (hA : ∀ j : Nat, j < 60 → A1 j = A j) (hn : f1 1 = f 1) (h2 : ∀ j : Nat, 5320 ≤ j → j < 5380 → f1 j = f j) : QRL A1 f1 := by
  have b1 := hM.1.1
  intro q hq
  rw [hn] at hq
  have z := h q hq
  rw [hA _ (by omega), hA _ (by omega), hA _ (by omega), hA _ (by omega), hA _ (by omega), h2 _ (by omega) (by omega), h2 _ (by omega) (by omega), h2 _ (by omega) (by omega), h2 _ (by omega) (by omega), h2 _ (by omega) (by omega)]
  exact z
theorem QRL_0 {A f : Nat → Int} (h : f 1 = 0) : QRL A f := fun q hq => by omega
theorem SDL_0 {A f : Nat → Int} (h : f 1 = 0) : SDL A f := fun q hq => by omega
/-- a new QUESTION -/
theorem QRL_q {A A1 f f1 : Nat → Int} {n s k x t v v' : Int} (h : QRL A f) (en : n = f 1) (h0 : 0 ≤ n) (kp : ∀ j : Nat, (j : Int) < 5 * n → A1 j = A j) (e0 : A1 (((n) * 5) + 0).toNat = s) (e1 : A1 (((n) * 5) + 1).toNat = k) (e2 : A1 (((n) * 5) + 2).toNat = x) (e3 : A1 (((n) * 5) + 3).toNat = t) (e4 : A1 (((n) * 5) + 4).toNat = v') (hv : (¬ k = 1 → v' = v) ∧ (k = 1 → v' = -1)) (f0 : f1 1 = f 1 + 1) (fk : ∀ j : Nat, ¬ j = 1 → (j < 5320 + 5 * (f 1).toNat ∨ 5325 + 5 * (f 1).toNat ≤ j) → f1 j = f j) (g0 : f1 (5320 + 5 * (f 1).toNat + 0) = s) (g1 : f1 (5320 + 5 * (f 1).toNat + 1) = k) (g2 : f1 (5320 + 5 * (f 1).toNat + 2) = x) (g3 : f1 (5320 + 5 * (f 1).toNat + 3) = t) (g4 : f1 (5320 + 5 * (f 1).toNat + 4) = v) : QRL A1 f1 := by
  intro q hq
  by_cases e : (q : Int) = n
  · have eq : q = (f 1).toNat := by omega
    rw [← eq] at g0 g1 g2 g3 g4
    rw [show 5320 + 5 * q = 5320 + 5 * q + 0 from rfl, g0, g1, g2, g3, g4]
    rw [show (((n) * 5) + 0).toNat = 5 * q by omega] at e0
    rw [show (((n) * 5) + 1).toNat = 5 * q + 1 by omega] at e1
    rw [show (((n) * 5) + 2).toNat = 5 * q + 2 by omega] at e2
    rw [show (((n) * 5) + 3).toNat = 5 * q + 3 by omega] at e3
    rw [show (((n) * 5) + 4).toNat = 5 * q + 4 by omega] at e4
    exact ⟨e0, e1, e2, e3, fun c => e4.trans (hv.1 c), fun c => e4.trans (hv.2 c)⟩
  · have z := h q (by omega)
    rw [kp _ (by omega), kp _ (by omega), kp _ (by omega), kp _ (by omega), kp _ (by omega), fk _ (by omega) (by omega), fk _ (by omega) (by omega), fk _ (by omega) (by omega), fk _ (by omega) (by omega), fk _ (by omega) (by omega)]
    exact z
theorem SDL_q {B B1 f f1 : Nat → Int} {n s k x t v v' : Int} (h : SDL B f) (hM : MW f) (hM1 : MW f1) (en : n = f 1) (h0 : 0 ≤ n) (kp : ∀ j : Nat, j < 11 * n.toNat → B1 j = B j) (nw : ∀ r : Nat, r ≤ 10 → B1 (11 * n.toNat + r) = SDW (wend f s) k x t v' (r : Int)) (hv : ¬ k = 1 → v' = v) (f0 : f1 1 = f 1 + 1) (fk : ∀ j : Nat, ¬ j = 1 → (j < 5320 + 5 * (f 1).toNat ∨ 5325 + 5 * (f 1).toNat ≤ j) → f1 j = f j) (g0 : f1 (5320 + 5 * (f 1).toNat + 0) = s) (g1 : f1 (5320 + 5 * (f 1).toNat + 1) = k) (g2 : f1 (5320 + 5 * (f 1).toNat + 2) = x) (g3 : f1 (5320 + 5 * (f 1).toNat + 3) = t) (g4 : f1 (5320 + 5 * (f 1).toNat + 4) = v) (hs : 0 ≤ s ∧ s ≤ 7) : SDL B1 f1 := by
  have b1 := hM.1.1
  have b2 := hM1.1.1
  intro q hq r hr
  by_cases e : (q : Int) = n
  · have eq : q = n.toNat := by omega
    subst eq
    have eq2 : (f 1).toNat = n.toNat := by omega
    rw [eq2] at g0 g1 g2 g3 g4
    rw [nw r hr]
    unfold SAID
    rw [show f1 (5320 + 5 * n.toNat) = s from g0, g1, g2, g3, g4]
    have hb : f (6 + s).toNat ≤ 24 := (MW_am hM s hs).2
    rw [wend_c (f := f) (f1 := f1) hs hb (fk _ (by omega) (by omega)) (fun j a b => fk j (by omega) (by omega))]
    exact SDW_v hv
  · rw [kp _ (by omega), h q (by omega) r hr, SAID_k hM (by omega) (fun j a b => fk j (by omega) (by omega)) (fun j a b => fk j (by omega) (by omega))]
/-- a TEXT of a SCENE -/
theorem SDL_t {A B B1 A2 A3 A2' A3' f f1 F : Nat → Int} {k n : Int} (h : SDL B f) (hq : QRL A f) (hM : MW f) (x : SAL B B1 A (wend F k) k n) (hF : SCL A2 A3 F) (h1 : SCL A2 A3 f1) (hk : 0 ≤ k ∧ k ≤ 7) (hn : n = f 1) (e1 : f1 1 = f 1) (fk : ∀ j : Nat, 6 ≤ j → j < 974 → ¬ j = 6 + k.toNat → (j < 14 + 120 * k.toNat ∨ 14 + 120 * k.toNat + 120 ≤ j) → f1 j = f j) (f2 : ∀ j : Nat, 5320 ≤ j → j < 5380 → f1 j = f j) : SDL B1 f1 := by
  have b1 := hM.1.1
  intro q hq' r hr
  rw [e1] at hq'
  have z := hq q hq'
  have m := (hM.2.2.2.1 q (by omega)).1
  rw [x q (by omega) r hr]
  unfold SAID
  rw [f2 (5320 + 5 * q) (by omega) (by omega), f2 (5320 + 5 * q + 1) (by omega) (by omega), f2 (5320 + 5 * q + 2) (by omega) (by omega), f2 (5320 + 5 * q + 3) (by omega) (by omega), f2 (5320 + 5 * q + 4) (by omega) (by omega)]
  by_cases c : A (5 * q) = k
  · rw [if_pos ⟨by omega, c⟩, z.2.1, z.2.2.1, z.2.2.2.1, show f (5320 + 5 * q) = k by rw [← z.1]; exact c, ← wend_u hF h1 hk]
    exact SDW_v z.2.2.2.2.1
  · rw [if_neg (fun y => c y.2), h q hq' r hr]
    unfold SAID
    have c2 : ¬ f (5320 + 5 * q) = k := by rw [← z.1]; exact c
    rw [wend_c (f := f) (f1 := f1) m (MW_am hM _ m).2 (fk _ (by omega) (by omega) (by omega) (by omega)) (fun j a b => fk j (by omega) (by omega) (by omega) (by omega))]
