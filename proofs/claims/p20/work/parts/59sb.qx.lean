/-! the class's reader: what was emitted and what is still to be -/
def CDX (D D1 : Nat → Nat → Int) (l : List Int) : Prop := D1 35 12 = D 35 12 + (l.length : Int) ∧ lst (D1 42) (D 35 12).toNat l.length = l ∧ ∀ j : Nat, (j : Int) < D 35 12 → D1 42 j = D 42 j
theorem CDX_0 {D : Nat → Nat → Int} : CDX D D [] := ⟨by show _ = _ + ((0 : Nat) : Int); omega, rfl, fun _ _ => rfl⟩
theorem CDX_k {D D1 D2 : Nat → Nat → Int} {l : List Int} (h : CDX D D1 l) (e : D2 35 12 = D1 35 12) (k : ∀ j, D2 42 j = D1 42 j) : CDX D D2 l := by
  obtain ⟨h1, h2, h3⟩ := h
  refine ⟨by rw [e, h1], ?_, fun j hj => by rw [k, h3 j hj]⟩
  rw [lst_c _ (fun j _ _ => k j)]; exact h2
theorem CDX_t {D D1 D2 : Nat → Nat → Int} {l m : List Int} (h : CDX D D1 l) (g : CDX D1 D2 m) (h0 : 0 ≤ D 35 12) : CDX D D2 (l ++ m) := by
  obtain ⟨h1, h2, h3⟩ := h
  obtain ⟨g1, g2, g3⟩ := g
  refine ⟨by rw [g1, h1, List.length_append]; omega, ?_, fun j hj => by rw [g3 j (by omega), h3 j hj]⟩
  rw [List.length_append, lst_a, lst_c (g := D1 42) l.length (fun j _ b => g3 j (by omega)), h2]
  congr 1
  rw [show (D 35 12).toNat + l.length = (D1 35 12).toNat by omega]
  exact g2
theorem CDX_1 {D D1 : Nat → Nat → Int} {op : Int} (h0 : 0 ≤ D 35 12) (e : D1 35 12 = D 35 12 + 1) (k1 : D1 42 (D 35 12).toNat = op) (k2 : ∀ j : Nat, ¬ j = (D 35 12).toNat → D1 42 j = D 42 j) : CDX D D1 [op] := by
  refine ⟨e, ?_, fun j hj => k2 j (by omega)⟩
  show [] ++ [D1 42 ((D 35 12).toNat + 0)] = [op]
  rw [Nat.add_zero, k1]; rfl
/-- F is to be emitted from the beginning on, G from here on -/
def QX (F G : Nat → List Int) (D0 D : Nat → Nat → Int) : Prop := D 35 2 = 0 → D0 35 2 = 0 ∧ ∃ l, CDX D0 D l ∧ F (D0 35 8).toNat = l ++ G (D 35 8).toNat
theorem QX_0 {F : Nat → List Int} {D : Nat → Nat → Int} : QX F F D D := fun z => ⟨z, [], CDX_0, rfl⟩
theorem QX_no {F G : Nat → List Int} {D0 D : Nat → Nat → Int} (h : ¬ D 35 2 = 0) : QX F G D0 D := fun z => absurd z h
/-- a step that emits m, and comes to another token -/
theorem QX_st {F G G' : Nat → List Int} {m : List Int} {D0 D D1 : Nat → Nat → Int} (h : QX F G D0 D) (hl : D1 35 2 = 0 → D 35 2 = 0) (h0 : 0 ≤ D0 35 12) (c : D1 35 2 = 0 → CDX D D1 m) (e : D1 35 2 = 0 → G (D 35 8).toNat = m ++ G' (D1 35 8).toNat) : QX F G' D0 D1 := by
  intro z
  obtain ⟨a, l, b, d⟩ := h (hl z)
  refine ⟨a, l ++ m, CDX_t b (c z) h0, ?_⟩
  rw [d, e z, List.append_assoc]
theorem QX_sm {F G : Nat → List Int} {D0 D D1 : Nat → Nat → Int} (h : QX F G D0 D) (e2 : D1 35 2 = D 35 2) (e8 : D1 35 8 = D 35 8) (e12 : D1 35 12 = D 35 12) (k : ∀ j, D1 42 j = D 42 j) : QX F G D0 D1 := by
  intro z
  obtain ⟨a, l, b, d⟩ := h (by rw [← e2]; exact z)
  exact ⟨a, l, CDX_k b e12 k, by rw [e8]; exact d⟩
theorem QX_g {F G G' : Nat → List Int} {D0 D : Nat → Nat → Int} (h : QX F G D0 D) (e : D 35 2 = 0 → G (D 35 8).toNat = G' (D 35 8).toNat) : QX F G' D0 D := by
  intro z
  obtain ⟨a, l, b, d⟩ := h z
  exact ⟨a, l, b, by rw [d, e z]⟩
def eNl (_ : Nat) : List Int := []
theorem QX_e {F : Nat → List Int} {D0 D : Nat → Nat → Int} (h : QX F eNl D0 D) : D 35 2 = 0 → CDX D0 D (F (D0 35 8).toNat) := by
  intro z
  obtain ⟨a, l, b, d⟩ := h z
  rw [d]
  show CDX D0 D (l ++ [])
  rw [List.append_nil]; exact b
theorem QX_ca {S : Nat → Int} {t : Nat} {F G G' : Nat → List Int} {eH : Nat → List Int} {H : Nat → GR} {D0 D D1 : Nat → Nat → Int} (h : QX F G D0 D) (x : SPX S t D D1 H) (h8 : ¬ D 35 2 = 0 → D 35 8 = (t : Int)) (h0 : 0 ≤ D0 35 12) (c : D1 35 2 = 0 → CDX D D1 (eH (D 35 8).toNat)) (e : (H (D 35 8).toNat).1 = 0 → G (D 35 8).toNat = eH (D 35 8).toNat ++ G' (H (D 35 8).toNat).2) : QX F G' D0 D1 :=
  QX_st h (fun z => (SPX_ok x h8 z).1) h0 c (fun z => by have y := SPX_ok x h8 z; rw [y.2.2]; exact e y.2.1)
theorem CDX_sm {D D1 : Nat → Nat → Int} (e12 : D1 35 12 = D 35 12) (k : ∀ j, D1 42 j = D 42 j) : CDX D D1 [] := CDX_k CDX_0 e12 k
theorem fl_0 {w : Int} (h : w = 0) : fl w = [] := by unfold fl; rw [if_pos h]
theorem fl_1 {w : Int} (h : ¬ w = 0) : fl w = [w] := by unfold fl; rw [if_neg h]
theorem flb_0 {w : Int} (h : w = 0) : flb w = [] := by unfold flb; rw [if_pos h]
theorem flb_1 {w : Int} (h : ¬ w = 0) : flb w = [-10] := by unfold flb; rw [if_neg h]
theorem CDX_l {D D' D1 : Nat → Nat → Int} {l : List Int} (e : D' 35 12 = D 35 12) (k : ∀ j, D' 42 j = D 42 j) (h : CDX D' D1 l) : CDX D D1 l := by
  obtain ⟨h1, h2, h3⟩ := h
  rw [e] at h1 h2 h3
  exact ⟨h1, h2, fun j hj => (h3 j hj).trans (k j)⟩
/-- the token at which a line begins; all that the lines ahead emit -/
def lpos (K V : Nat → Int) : Nat → Nat
  | 0 => 0
  | c + 1 => (gLine K V (lpos K V c)).2
def LTOT (K V : Nat → Int) : Nat → List Int
  | 0 => []
  | c + 1 => LTOT K V c ++ eLn K V (lpos K V c)
def LROW (g : Nat → Int) (K V : Nat → Int) (q : Nat) : Prop := g (4 * q) = lnR K V (lpos K V q) ∧ g (4 * q + 1) = ((LTOT K V q).length : Int) ∧ g (4 * q + 2) = ((LTOT K V q).length : Int) + ((eE K V (lnP K (lpos K V q))).length : Int) ∧ g (4 * q + 3) = ((LTOT K V (q + 1)).length : Int)
theorem LROW_k {g g' : Nat → Int} {K V : Nat → Int} {q : Nat} (h : LROW g K V q) (k : ∀ j, 4 * q ≤ j → j < 4 * q + 4 → g' j = g j) : LROW g' K V q := by
  unfold LROW at h ⊢
  rw [k _ (by omega) (by omega), k _ (by omega) (by omega), k _ (by omega) (by omega), k _ (by omega) (by omega)]
  exact h
def POSN (K V : Nat → Int) (D : Nat → Nat → Int) (c : Int) : Prop := D 35 2 = 0 → (D 35 8).toNat = lpos K V c.toNat ∧ D 35 12 = ((LTOT K V c.toNat).length : Int) ∧ lst (D 42) 0 (LTOT K V c.toNat).length = LTOT K V c.toNat ∧ ∀ q : Nat, (q : Int) < c → LROW (D 41) K V q
theorem POSN_0 {K V : Nat → Int} {D : Nat → Nat → Int} (h8 : D 35 8 = 0) (h12 : D 35 12 = 0) : POSN K V D 0 := fun _ => ⟨by rw [h8]; rfl, h12, rfl, fun q hq => by omega⟩
theorem POSN_no {K V : Nat → Int} {D : Nat → Nat → Int} {c : Int} (h : ¬ D 35 2 = 0) : POSN K V D c := fun z => absurd z h
theorem POSN_s {K V S : Nat → Int} {t : Nat} {D D1 : Nat → Nat → Int} {c p : Int} (h : POSN K V D c) (h0 : 0 ≤ c) (x : SPX S t D D1 (gLine K V)) (h8 : ¬ D 35 2 = 0 → D 35 8 = (t : Int)) (h12 : 0 ≤ D 35 12) (cd : D1 35 2 = 0 → CDX D D1 (eLn K V (D 35 8).toNat)) (r : D1 35 2 = 0 → D1 41 p.toNat = lnR K V (D 35 8).toNat ∧ D1 41 (p + 1).toNat = D 35 12 ∧ D1 41 (p + 2).toNat = D 35 12 + ((eE K V (lnP K (D 35 8).toNat)).length : Int) ∧ D1 41 (p + 3).toNat = D1 35 12) (hp : p = c * 4) (rk : ∀ j : Nat, (j : Int) < p ∨ p + 4 ≤ (j : Int) → D1 41 j = D 41 j) : POSN K V D1 (c + 1) := by
  intro z
  have y := SPX_ok x h8 z
  obtain ⟨a1, a2, a3, a4⟩ := h y.1
  obtain ⟨c1, c2, c3⟩ := cd z
  obtain ⟨r0, r1, r2, r3⟩ := r z
  rw [a1] at c1 c2 r0 r2
  have ec : (c + 1).toNat = c.toNat + 1 := by omega
  have el : D1 35 12 = ((LTOT K V (c.toNat + 1)).length : Int) := by
    show _ = ((LTOT K V c.toNat ++ eLn K V (lpos K V c.toNat)).length : Int)
    rw [List.length_append, c1, a2]; omega
  rw [ec]
  refine ⟨by rw [y.2.2, a1]; rfl, el, ?_, fun q hq => ?_⟩
  · show lst (D1 42) 0 (LTOT K V c.toNat ++ eLn K V (lpos K V c.toNat)).length = _
    rw [List.length_append, lst_a, lst_c (g := D 42) _ (fun j _ b => c3 j (by omega)), a3]
    show _ = LTOT K V c.toNat ++ eLn K V (lpos K V c.toNat)
    congr 1
    rw [show 0 + (LTOT K V c.toNat).length = (D 35 12).toNat by omega]
    exact c2
  · by_cases e : (q : Int) < c
    · exact LROW_k (a4 q e) (fun j b1 b2 => rk j (by omega))
    · have eq : q = c.toNat := by omega
      subst eq
      unfold LROW
      rw [show 4 * c.toNat = p.toNat by omega, show p.toNat + 1 = (p + 1).toNat by omega, show p.toNat + 2 = (p + 2).toNat by omega, show p.toNat + 3 = (p + 3).toNat by omega, r0, r1, r2, r3, a2, el]
      exact ⟨rfl, rfl, rfl, rfl⟩
/-! the reference's -/
def RXD (D D1 : Nat → Nat → Int) (l : List Int) : Prop := D 79 11 ≤ D1 79 11 ∧ exl (D1 84) (D 79 11).toNat (D1 79 11 - D 79 11).toNat = l ∧ (∀ j : Nat, (j : Int) < 2 * D 79 11 → D1 84 j = D 84 j) ∧ ∀ j : Nat, D 79 11 ≤ (j : Int) → (j : Int) < D1 79 11 → D1 84 (2 * j) = 0 → 0 ≤ D1 84 (2 * j + 1)
theorem RXD_sm {D D1 : Nat → Nat → Int} (e : D1 79 11 = D 79 11) (k : ∀ j, D1 84 j = D 84 j) : RXD D D1 [] := ⟨by omega, by rw [show (D1 79 11 - D 79 11).toNat = 0 by omega]; rfl, fun j _ => k j, fun j h1 h2 => by omega⟩
theorem RXD_l {D D' D1 : Nat → Nat → Int} {l : List Int} (e : D' 79 11 = D 79 11) (k : ∀ j, D' 84 j = D 84 j) (h : RXD D' D1 l) : RXD D D1 l := by
  obtain ⟨h1, h2, h3, h4⟩ := h
  rw [e] at h1 h2 h3 h4
  exact ⟨h1, h2, fun j hj => (h3 j hj).trans (k j), h4⟩
theorem RXD_k {D D1 D2 : Nat → Nat → Int} {l : List Int} (h : RXD D D1 l) (e : D2 79 11 = D1 79 11) (k : ∀ j, D2 84 j = D1 84 j) : RXD D D2 l := by
  obtain ⟨h1, h2, h3, h4⟩ := h
  exact ⟨by omega, by rw [e, exl_c _ (fun j _ _ => k j)]; exact h2, fun j hj => by rw [k, h3 j hj], fun j a b => by rw [k, k]; exact h4 j a (by omega)⟩
theorem RXD_t {D D1 D2 : Nat → Nat → Int} {l m : List Int} (h : RXD D D1 l) (g : RXD D1 D2 m) (h0 : 0 ≤ D 79 11) : RXD D D2 (l ++ m) := by
  obtain ⟨h1, h2, h3, h4⟩ := h
  obtain ⟨g1, g2, g3, g4⟩ := g
  refine ⟨by omega, ?_, fun j hj => by rw [g3 j (by omega), h3 j hj], fun j a b => ?_⟩
  · rw [show (D2 79 11 - D 79 11).toNat = (D1 79 11 - D 79 11).toNat + (D2 79 11 - D1 79 11).toNat by omega, exl_a, exl_c (g := D1 84) (D1 79 11 - D 79 11).toNat (fun j _ b => g3 j (by omega)), h2]
    congr 1
    rw [show (D 79 11).toNat + (D1 79 11 - D 79 11).toNat = (D1 79 11).toNat by omega]
    exact g2
  · by_cases c : (j : Int) < D1 79 11
    · rw [g3 _ (by omega), g3 _ (by omega)]; exact h4 j a c
    · exact g4 j (by omega) b
theorem RXD_1 {D D1 : Nat → Nat → Int} {k v : Int} (h0 : 0 ≤ D 79 11) (e : D1 79 11 = D 79 11 + 1) (k1 : D1 84 (2 * (D 79 11).toNat) = k) (k2 : D1 84 (2 * (D 79 11).toNat + 1) = v) (k3 : ∀ j : Nat, (j : Int) < 2 * D 79 11 → D1 84 j = D 84 j) (hv : k = 0 → 0 ≤ v) : RXD D D1 (stx k v) := by
  refine ⟨by omega, ?_, k3, fun j a b => ?_⟩
  · rw [show (D1 79 11 - D 79 11).toNat = 1 by omega]
    show [] ++ stx (D1 84 (2 * ((D 79 11).toNat + 0))) (D1 84 (2 * ((D 79 11).toNat + 0) + 1)) = _
    rw [Nat.add_zero, k1, k2]; rfl
  · rw [show j = (D 79 11).toNat by omega, k1, k2]; exact hv
def RQ (F G : Nat → List Int) (D0 D : Nat → Nat → Int) (i gi : Nat) : Prop := ∃ l, RXD D0 D l ∧ F i = l ++ G gi
theorem RQ_0 {F : Nat → List Int} {D : Nat → Nat → Int} {i : Nat} : RQ F F D D i i := ⟨[], RXD_sm rfl (fun _ => rfl), rfl⟩
theorem RQ_st {F G G' : Nat → List Int} {m : List Int} {D0 D D1 : Nat → Nat → Int} {i gi gj : Nat} (h : RQ F G D0 D i gi) (h0 : 0 ≤ D0 79 11) (c : RXD D D1 m) (e : G gi = m ++ G' gj) : RQ F G' D0 D1 i gj := by
  obtain ⟨l, b, d⟩ := h
  exact ⟨l ++ m, RXD_t b c h0, by rw [d, e, List.append_assoc]⟩
theorem RQ_sm {F G : Nat → List Int} {D0 D D1 : Nat → Nat → Int} {i gi : Nat} (h : RQ F G D0 D i gi) (e : D1 79 11 = D 79 11) (k : ∀ j, D1 84 j = D 84 j) : RQ F G D0 D1 i gi := by
  obtain ⟨l, b, d⟩ := h
  exact ⟨l, RXD_k b e k, d⟩
theorem RQ_g {F G G' : Nat → List Int} {D0 D : Nat → Nat → Int} {i gi : Nat} (h : RQ F G D0 D i gi) (e : G gi = G' gi) : RQ F G' D0 D i gi := by
  obtain ⟨l, b, d⟩ := h
  exact ⟨l, b, by rw [d, e]⟩
theorem RQ_e {F : Nat → List Int} {D0 D : Nat → Nat → Int} {i gi : Nat} (h : RQ F eNl D0 D i gi) : RXD D0 D (F i) := by
  obtain ⟨l, b, d⟩ := h
  rw [d]
  show RXD D0 D (l ++ [])
  rw [List.append_nil]; exact b
theorem eE1_j {K V : Nat → Int} {i j : Nat} (h : gE K V i = (0, j)) : (gE K V i).2 = j := by rw [h]
theorem rC_1 {K V : Nat → Int} {d i : Nat} (h : ¬ K i = 1005) (h2 : ¬ K i = 40) : rC K V d i = rC1 K V i := by
  cases d with
  | zero => rfl
  | succ d =>
    show (if _ then _ else if _ then _ else _) = _
    rw [if_neg h, if_neg h2]
theorem rC_n {K V : Nat → Int} {d i : Nat} (h : K i = 1005) : rC K V (d + 1) i = rC K V d (i + 1) ++ [-8] := by
  show (if _ then _ else if _ then _ else _) = _
  rw [if_pos h]
theorem rC_p {K V : Nat → Int} {d i : Nat} (h : K i = 40) : rC K V (d + 1) i = rB K V d (i + 1) := by
  show (if _ then _ else if _ then _ else _) = _
  rw [if_neg (by omega), if_pos h]; rfl
def rLb (K V : Nat → Int) (j : Nat) : List Int := if K j = 1002 then rB K V 8 (j + 1) else []
theorem rLb_1 {K V : Nat → Int} {j : Nat} (h : K j = 1002) : rLb K V j = rB K V 8 (j + 1) := by unfold rLb; rw [if_pos h]
theorem rLb_0 {K V : Nat → Int} {j : Nat} (h : ¬ K j = 1002) : rLb K V j = [] := by unfold rLb; rw [if_neg h]
/-- a line of the reference: its row (the l-th), where its steps lie -/
def LXR (g h : Nat → Int) (l a e : Int) (K V : Nat → Int) (i : Nat) : Prop := g (4 * l).toNat = lnR K V i ∧ g ((4 * l) + 1).toNat = a ∧ g ((4 * l) + 3).toNat = e ∧ (a ≤ g ((4 * l) + 2).toNat ∧ g ((4 * l) + 2).toNat ≤ e) ∧ exl h a.toNat (g ((4 * l) + 2).toNat - a).toNat = rE K V (lnP K i) ∧ exl h (g ((4 * l) + 2).toNat).toNat (e - g ((4 * l) + 2).toNat).toNat = rLb K V (gE K V (lnP K i)).2 ∧ ∀ j : Nat, a ≤ (j : Int) → (j : Int) < e → h (2 * j) = 0 → 0 ≤ h (2 * j + 1)
theorem LXR_k {g g' h h' : Nat → Int} {l a e : Int} {K V : Nat → Int} {i : Nat} (x : LXR g h l a e K V i) (h0 : 0 ≤ l) (ha : 0 ≤ a) (kg : ∀ j : Nat, 4 * l ≤ (j : Int) → (j : Int) < 4 * l + 4 → g' j = g j) (kh : ∀ j : Nat, (j : Int) < 2 * e → h' j = h j) : LXR g' h' l a e K V i := by
  obtain ⟨x1, x2, x3, x4, x5, x6, x7⟩ := x
  unfold LXR
  rw [kg (4 * l).toNat (by omega) (by omega), kg ((4 * l) + 1).toNat (by omega) (by omega), kg ((4 * l) + 2).toNat (by omega) (by omega), kg ((4 * l) + 3).toNat (by omega) (by omega)]
  refine ⟨x1, x2, x3, x4, ?_, ?_, fun j c d => by rw [kh _ (by omega), kh _ (by omega)]; exact x7 j c d⟩
  · rw [exl_c _ (fun j c d => kh j (by omega))]; exact x5
  · rw [exl_c _ (fun j c d => kh j (by omega))]; exact x6
theorem LXR_m {D D1 D2 D3 : Nat → Nat → Int} {l : Int} {K V : Nat → Int} {i : Nat} (r : RXD D D1 (rE K V (lnP K i))) (r2 : RXD D1 D2 (rLb K V (gE K V (lnP K i)).2)) (h0 : 0 ≤ D 79 11) (e11 : D3 79 11 = D2 79 11) (k84 : ∀ j, D3 84 j = D2 84 j) (g0 : D3 83 (4 * l).toNat = lnR K V i) (g1 : D3 83 ((4 * l) + 1).toNat = D 79 11) (g2 : D3 83 ((4 * l) + 2).toNat = D1 79 11) (g3 : D3 83 ((4 * l) + 3).toNat = D2 79 11) : LXR (D3 83) (D3 84) l (D 79 11) (D3 79 11) K V i := by
  obtain ⟨a1, a2, a3, a4⟩ := r
  obtain ⟨b1, b2, b3, b4⟩ := r2
  unfold LXR
  rw [g0, g1, g2, g3, e11]
  refine ⟨rfl, rfl, rfl, ⟨a1, b1⟩, ?_, ?_, fun j c d => ?_⟩
  · rw [exl_c (g := D1 84) _ (fun j c d => by rw [k84]; exact b3 j (by omega))]; exact a2
  · rw [exl_c (g := D2 84) _ (fun j c d => k84 j)]; exact b2
  · rw [k84, k84]
    by_cases z : (j : Int) < D1 79 11
    · rw [b3 _ (by omega), b3 _ (by omega)]; exact a4 j c z
    · exact b4 j (by omega) d
theorem LXR_84 {D D1 D2 D3 : Nat → Nat → Int} {l m : List Int} (r : RXD D D1 l) (h0 : 0 ≤ D 79 11) (r2 : RXD D1 D2 m) (k84 : ∀ j, D3 84 j = D2 84 j) : ∀ j : Nat, (j : Int) < 2 * D 79 11 → D3 84 j = D 84 j := fun j hj => by
  have h1 := r.1
  rw [k84, r2.2.2.1 j (by omega), r.2.2.1 j hj]
