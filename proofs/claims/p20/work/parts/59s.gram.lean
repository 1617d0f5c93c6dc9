/-! the grammar of TEXTS, on tokens: K their kinds, V their values; what it comes to: a FAULT (0 none) and a token -/
abbrev GR : Type := Int × Nat
def gB (r : GR) (f : Nat → GR) : GR := if r.1 = 0 then f r.2 else r
theorem gB_0 {i : Nat} {f : Nat → GR} : gB (0, i) f = f i := rfl
theorem gB_ok {r : GR} {f : Nat → GR} (h : r.1 = 0) : gB r f = f r.2 := by unfold gB; rw [if_pos h]
theorem gB_no {r : GR} {f : Nat → GR} (h : ¬ r.1 = 0) : gB r f = r := by unfold gB; rw [if_neg h]
theorem gB_as {r : GR} {f g : Nat → GR} : gB (gB r f) g = gB r (fun i => gB (f i) g) := by
  by_cases h : r.1 = 0
  · rw [gB_ok h, gB_ok h]
  · rw [gB_no h, gB_no h, gB_no h]
def gOk (i : Nat) : GR := (0, i)
theorem gB_id {r : GR} : gB r gOk = r := by
  by_cases h : r.1 = 0
  · rw [gB_ok h]; show (0, r.2) = r; rw [← h]
  · rw [gB_no h]
/-- one token of a kind -/
def gK (K : Nat → Int) (k : Int) (i : Nat) : GR := if K i = k then (0, i + 1) else (1, i)
/-- a NUMBER of 0 .. m -/
def gA (K V : Nat → Int) (m : Int) (i : Nat) : GR := if K i = 2 then (if V i ≤ m then (0, i + 1) else (2, i)) else (1, i)
def gU (K : Nat → Int) (i : Nat) : GR := if K i = 2 ∨ (1006 ≤ K i ∧ K i ≤ 1011) then (0, i + 1) else (1, i)
/-- behind a / -/
def gD (K V : Nat → Int) (i : Nat) : GR := if K i = 2 then (if V i = 0 then (2, i) else (0, i + 1)) else (1, i)
/-- T and E in one, behind the first U -/
def gS (K V : Nat → Int) : Nat → Nat → GR
  | 0, i => (9, i)
  | f + 1, i => if K i = 42 ∨ K i = 43 ∨ K i = 45 then gB (gU K (i + 1)) (gS K V f) else if K i = 47 then gB (gD K V (i + 1)) (gS K V f) else (0, i)
/-- T behind its first U -/
def gP (K V : Nat → Int) : Nat → Nat → GR
  | 0, i => (9, i)
  | f + 1, i => if K i = 42 then gB (gU K (i + 1)) (gP K V f) else if K i = 47 then gB (gD K V (i + 1)) (gP K V f) else (0, i)
/-- E behind its first T -/
def gQ (K V : Nat → Int) : Nat → Nat → GR
  | 0, i => (9, i)
  | f + 1, i => if K i = 43 ∨ K i = 45 then gB (gB (gU K (i + 1)) (gP K V 600)) (gQ K V f) else (0, i)
def gE (K V : Nat → Int) (i : Nat) : GR := gB (gU K i) (gS K V 600)
def gT (K V : Nat → Int) (i : Nat) : GR := gB (gU K i) (gP K V 600)
def gC1 (K V : Nat → Int) (i : Nat) : GR := gB (gE K V i) (fun j => if K j = 60 ∨ K j = 61 ∨ K j = 62 then gE K V (j + 1) else (1, j))
/-- C {(and | or) C}, behind the first C -/
def gL (K : Nat → Int) (c : Nat → GR) : Nat → Nat → GR
  | 0, i => (9, i)
  | f + 1, i => if K i = 1004 ∨ K i = 1003 then gB (c (i + 1)) (gL K c f) else (0, i)
/-- C, with so many ( left that may be open -/
def gC (K V : Nat → Int) : Nat → Nat → GR
  | 0, i => if K i = 1005 ∨ K i = 40 then (3, i) else gC1 K V i
  | d + 1, i => if K i = 1005 then gC K V d (i + 1) else if K i = 40 then gB (gB (gC K V d (i + 1)) (gL K (gC K V d) 600)) (gK K 41) else gC1 K V i
def gB_ (K V : Nat → Int) (d i : Nat) : GR := gB (gC K V d i) (gL K (gC K V d) 600)
/-- {and C}, behind the first C -/
def gN (K : Nat → Int) (c : Nat → GR) : Nat → Nat → GR
  | 0, i => (9, i)
  | f + 1, i => if K i = 1004 then gB (c (i + 1)) (gN K c f) else (0, i)
/-- {or A}, behind the first A -/
def gO (K : Nat → Int) (c : Nat → GR) : Nat → Nat → GR
  | 0, i => (9, i)
  | f + 1, i => if K i = 1003 then gB (gB (c (i + 1)) (gN K c 600)) (gO K c f) else (0, i)
/-- a line of a LAW -/
def gLine (K V : Nat → Int) (i : Nat) : GR := gB (if K i = 1001 then (0, i + 1) else gA K V 7 (i + 1)) (fun j => gB (gE K V j) (fun j => gB (if K j = 1002 then gB_ K V 8 (j + 1) else (0, j)) (gK K 59)))
/-- another WHO than w -/
def gOt (K V : Nat → Int) (w : Int) (j : Nat) : GR := if K j = 2 ∧ V j = w then (2, j) else gA K V 3 j
/-- what an act has behind its first part: a THING, a BOX, a SCREEN -/
def gA3 (K V : Nat → Int) (a : Int) (j : Nat) : GR := if a = 6 then gA K V 1 j else (0, j)
def gA2 (K V : Nat → Int) (a : Int) (j : Nat) : GR := gB (if a = 2 ∨ a = 3 ∨ a = 4 ∨ a = 5 then gA K V 3 j else (0, j)) (gA3 K V a)
def gA1 (K V : Nat → Int) (a : Int) (j : Nat) : GR := gB (if a = 2 ∨ a = 3 ∨ a = 4 then gA K V 2 j else (0, j)) (gA2 K V a)
def gA0 (K V : Nat → Int) (a w : Int) (j : Nat) : GR := gB (if a = 4 then gOt K V w j else (0, j)) (gA1 K V a)
/-- an act, behind its keyword a, and ahead of its ; -/
def gAc (K V : Nat → Int) (a : Int) (i : Nat) : GR := if a = 8 then gA K V 1 i else gB (gA K V 3 i) (gA0 K V a (V i))
def gAct (K V : Nat → Int) (a : Int) (i : Nat) : GR := gB (gAc K V a i) (gK K 59)
/-- the whole TEXT: a FAULT, its token, how many acts or lines -/
def gX (K V : Nat → Int) (s : Int) : Nat → Nat → Int → Int × Nat × Int
  | 0, i, c => (9, i, c)
  | f + 1, i, c => if K i = 0 then (0, i, c)
    else if s = 0 then (if ¬ (1000 ≤ K i ∧ K i ≤ 1008) then (1, i, c) else if 24 ≤ c then (3, i, c) else if (gAct K V (K i - 1000) (i + 1)).1 = 0 then gX K V s f (gAct K V (K i - 1000) (i + 1)).2 (c + 1) else ((gAct K V (K i - 1000) (i + 1)).1, (gAct K V (K i - 1000) (i + 1)).2, c))
    else (if ¬ (K i = 1000 ∨ K i = 1001) then (1, i, c) else if 16 ≤ c then (3, i, c) else if (gLine K V i).1 = 0 then gX K V s f (gLine K V i).2 (c + 1) else ((gLine K V i).1, (gLine K V i).2, c))
/-! results get on: what is read ends behind, and within the text -/
def gM (r : GR) (i t : Nat) : Prop := r.1 = 0 → i + 1 ≤ r.2 ∧ r.2 ≤ t
def gW (r : GR) (i t : Nat) : Prop := r.1 = 0 → i ≤ r.2 ∧ r.2 ≤ t
theorem gB_M {r : GR} {f : Nat → GR} {i t : Nat} (h : gM r i t) (hf : ∀ j, i + 1 ≤ j → j ≤ t → gW (f j) j t) : gM (gB r f) i t := by
  by_cases z : r.1 = 0
  · rw [gB_ok z]; intro y; have := h z; have := hf _ this.1 this.2 y; omega
  · rw [gB_no z]; exact fun y => absurd y z
theorem gB_W {r : GR} {f : Nat → GR} {i t : Nat} (h : gW r i t) (hf : ∀ j, i ≤ j → j ≤ t → gW (f j) j t) : gW (gB r f) i t := by
  by_cases z : r.1 = 0
  · rw [gB_ok z]; intro y; have := h z; have := hf _ this.1 this.2 y; omega
  · rw [gB_no z]; exact fun y => absurd y z
theorem gM_W {r : GR} {i t : Nat} (h : gM r i t) : gW r i t := fun z => by have := h z; omega
theorem gM_s {r : GR} {i t : Nat} (h : gM r (i + 1) t) : gM r i t := fun z => by have := h z; omega
theorem gW_M {r : GR} {i t : Nat} (h : gW r (i + 1) t) : gM r i t := fun z => by have := h z; omega
/-- nothing stands at t and behind -/
def KZ (K : Nat → Int) (t : Nat) : Prop := ∀ i, t ≤ i → K i = 0
theorem KZ_lt {K : Nat → Int} {t i : Nat} (h : KZ K t) (z : ¬ K i = 0) : i + 1 ≤ t := Nat.lt_of_not_le (fun y => z (h i y))
theorem gU_M {K : Nat → Int} {t i : Nat} (h : KZ K t) : gM (gU K i) i t := by
  unfold gU; split
  · exact fun _ => ⟨Nat.le_refl _, KZ_lt h (by omega)⟩
  · exact fun z => by cases z
theorem gA_M {K V : Nat → Int} {t i : Nat} {m : Int} (h : KZ K t) : gM (gA K V m i) i t := by
  unfold gA; split
  · split
    · exact fun _ => ⟨Nat.le_refl _, KZ_lt h (by omega)⟩
    · exact fun z => by cases z
  · exact fun z => by cases z
theorem gD_M {K V : Nat → Int} {t i : Nat} (h : KZ K t) : gM (gD K V i) i t := by
  unfold gD; split
  · split
    · exact fun z => by cases z
    · exact fun _ => ⟨Nat.le_refl _, KZ_lt h (by omega)⟩
  · exact fun z => by cases z
theorem gK_M {K : Nat → Int} {t i : Nat} {k : Int} (h : KZ K t) (hk : ¬ k = 0) : gM (gK K k i) i t := by
  unfold gK; split
  · exact fun _ => ⟨Nat.le_refl _, KZ_lt h (by omega)⟩
  · exact fun z => by cases z
theorem gS_W {K V : Nat → Int} {t : Nat} (h : KZ K t) : ∀ f i, i ≤ t → gW (gS K V f i) i t
  | 0, i, _ => fun z => by cases z
  | f + 1, i, hi => by
    unfold gS
    split
    · exact gM_W (gM_s (gB_M (gU_M h) (fun j _ h2 => gS_W h f j h2)))
    · split
      · exact gM_W (gM_s (gB_M (gD_M h) (fun j _ h2 => gS_W h f j h2)))
      · exact fun _ => ⟨Nat.le_refl _, hi⟩
theorem gP_W {K V : Nat → Int} {t : Nat} (h : KZ K t) : ∀ f i, i ≤ t → gW (gP K V f i) i t
  | 0, i, _ => fun z => by cases z
  | f + 1, i, hi => by
    unfold gP
    split
    · exact gM_W (gM_s (gB_M (gU_M h) (fun j _ h2 => gP_W h f j h2)))
    · split
      · exact gM_W (gM_s (gB_M (gD_M h) (fun j _ h2 => gP_W h f j h2)))
      · exact fun _ => ⟨Nat.le_refl _, hi⟩
/-! how much fuel there is makes no difference -/
theorem gS_f {K V : Nat → Int} {t : Nat} (h : KZ K t) : ∀ (k f f' i : Nat), t + 1 ≤ i + k → t + 1 ≤ i + f → t + 1 ≤ i + f' → i ≤ t → gS K V f i = gS K V f' i
  | 0, f, f', i, h0, h1, h2, hi => by omega
  | k + 1, f, f', i, h0, h1, h2, hi => by
    cases f with
    | zero => omega
    | succ f =>
      cases f' with
      | zero => omega
      | succ f' =>
        unfold gS
        have e : ∀ r : GR, gM r (i + 1) t → gB r (gS K V f) = gB r (gS K V f') := fun r hr => by
          by_cases z : r.1 = 0
          · have := hr z
            rw [gB_ok z, gB_ok z]; exact gS_f h k f f' r.2 (by omega) (by omega) (by omega) (by omega)
          · rw [gB_no z, gB_no z]
        rw [e _ (gU_M h), e _ (gD_M h)]
theorem gP_f {K V : Nat → Int} {t : Nat} (h : KZ K t) : ∀ (k f f' i : Nat), t + 1 ≤ i + k → t + 1 ≤ i + f → t + 1 ≤ i + f' → i ≤ t → gP K V f i = gP K V f' i
  | 0, f, f', i, h0, h1, h2, hi => by omega
  | k + 1, f, f', i, h0, h1, h2, hi => by
    cases f with
    | zero => omega
    | succ f =>
      cases f' with
      | zero => omega
      | succ f' =>
        unfold gP
        have e : ∀ r : GR, gM r (i + 1) t → gB r (gP K V f) = gB r (gP K V f') := fun r hr => by
          by_cases z : r.1 = 0
          · have := hr z
            rw [gB_ok z, gB_ok z]; exact gP_f h k f f' r.2 (by omega) (by omega) (by omega) (by omega)
          · rw [gB_no z, gB_no z]
        rw [e _ (gU_M h), e _ (gD_M h)]
/-- one step of E behind its first U -/
theorem gS_u {K V : Nat → Int} {t i : Nat} (h : KZ K t) (ht : t ≤ 501) (hi : i ≤ t) : gS K V 600 i = if K i = 42 ∨ K i = 43 ∨ K i = 45 then gB (gU K (i + 1)) (gS K V 600) else if K i = 47 then gB (gD K V (i + 1)) (gS K V 600) else (0, i) := by
  rw [gS_f h (t + 1) 600 601 i (by omega) (by omega) (by omega) hi]
  rfl
theorem gP_u {K V : Nat → Int} {t i : Nat} (h : KZ K t) (ht : t ≤ 501) (hi : i ≤ t) : gP K V 600 i = if K i = 42 then gB (gU K (i + 1)) (gP K V 600) else if K i = 47 then gB (gD K V (i + 1)) (gP K V 600) else (0, i) := by
  rw [gP_f h (t + 1) 600 601 i (by omega) (by omega) (by omega) hi]
  rfl
theorem gQ_W {K V : Nat → Int} {t : Nat} (h : KZ K t) : ∀ f i, i ≤ t → gW (gQ K V f i) i t
  | 0, i, _ => fun z => by cases z
  | f + 1, i, hi => by
    unfold gQ
    split
    · exact gM_W (gM_s (gB_M (gB_M (gU_M h) (fun j _ h2 => gP_W h 600 j h2)) (fun j _ h2 => gQ_W h f j h2)))
    · exact fun _ => ⟨Nat.le_refl _, hi⟩
theorem gE_M {K V : Nat → Int} {t i : Nat} (h : KZ K t) : gM (gE K V i) i t := gB_M (gU_M h) (fun j _ h2 => gS_W h 600 j h2)
theorem gT_M {K V : Nat → Int} {t i : Nat} (h : KZ K t) : gM (gB (gU K i) (gP K V 600)) i t := gB_M (gU_M h) (fun j _ h2 => gP_W h 600 j h2)
theorem gQ_f {K V : Nat → Int} {t : Nat} (h : KZ K t) : ∀ (k f f' i : Nat), t + 1 ≤ i + k → t + 1 ≤ i + f → t + 1 ≤ i + f' → i ≤ t → gQ K V f i = gQ K V f' i
  | 0, f, f', i, h0, h1, h2, hi => by omega
  | k + 1, f, f', i, h0, h1, h2, hi => by
    cases f with
    | zero => omega
    | succ f =>
      cases f' with
      | zero => omega
      | succ f' =>
        unfold gQ
        have e : ∀ r : GR, gM r (i + 1) t → gB r (gQ K V f) = gB r (gQ K V f') := fun r hr => by
          by_cases z : r.1 = 0
          · have := hr z
            rw [gB_ok z, gB_ok z]; exact gQ_f h k f f' r.2 (by omega) (by omega) (by omega) (by omega)
          · rw [gB_no z, gB_no z]
        rw [e _ (gT_M h)]
theorem gQ_u {K V : Nat → Int} {t i : Nat} (h : KZ K t) (ht : t ≤ 501) (hi : i ≤ t) : gQ K V 600 i = if K i = 43 ∨ K i = 45 then gB (gB (gU K (i + 1)) (gP K V 600)) (gQ K V 600) else (0, i) := by
  rw [gQ_f h (t + 1) 600 601 i (by omega) (by omega) (by omega) hi]
  rfl
theorem gB_e {r : GR} {f g : Nat → GR} {i t : Nat} (h : gM r i t) (hf : ∀ j, i + 1 ≤ j → j ≤ t → f j = g j) : gB r f = gB r g := by
  by_cases z : r.1 = 0
  · have := h z; rw [gB_ok z, gB_ok z]; exact hf _ this.1 this.2
  · rw [gB_no z, gB_no z]
/-- E in one or T by T -/
theorem gS_PQ {K V : Nat → Int} {t : Nat} (h : KZ K t) (ht : t ≤ 501) : ∀ (k i : Nat), t + 1 ≤ i + k → i ≤ t → gS K V 600 i = gB (gP K V 600 i) (gQ K V 600)
  | 0, i, h0, hi => by omega
  | k + 1, i, h0, hi => by
    have ih : ∀ j, i + 1 ≤ j → j ≤ t → gS K V 600 j = gB (gP K V 600 j) (gQ K V 600) := fun j h1 h2 => gS_PQ h ht k j (by omega) h2
    rw [gS_u h ht hi, gP_u h ht hi]
    by_cases c1 : K i = 42
    · rw [if_pos (.inl c1), if_pos c1, gB_as]
      exact gB_e (gM_s (gU_M h)) ih
    · by_cases c2 : K i = 47
      · rw [if_neg (by omega), if_pos c2, if_neg c1, if_pos c2, gB_as]
        exact gB_e (gM_s (gD_M h)) ih
      · rw [if_neg c1, if_neg c2, if_neg c2]
        show _ = gQ K V 600 i
        rw [gQ_u h ht hi]
        by_cases c3 : K i = 43 ∨ K i = 45
        · rw [if_pos (.inr c3), if_pos c3, gB_as]
          exact gB_e (gM_s (gU_M h)) ih
        · rw [if_neg (by omega), if_neg c3]
theorem gE_PQ {K V : Nat → Int} {t i : Nat} (h : KZ K t) (ht : t ≤ 501) : gE K V i = gB (gT K V i) (gQ K V 600) := by
  unfold gE gT
  rw [gB_as]
  exact gB_e (gU_M h) (fun j _ h2 => gS_PQ h ht (t + 1) j (by omega) h2)
/-! and, or -/
theorem gL_W {K : Nat → Int} {c : Nat → GR} {t : Nat} (hc : ∀ i, gM (c i) i t) : ∀ f i, i ≤ t → gW (gL K c f i) i t
  | 0, i, _ => fun z => by cases z
  | f + 1, i, hi => by
    unfold gL
    split
    · exact gM_W (gM_s (gB_M (hc _) (fun j _ h2 => gL_W hc f j h2)))
    · exact fun _ => ⟨Nat.le_refl _, hi⟩
theorem gN_W {K : Nat → Int} {c : Nat → GR} {t : Nat} (hc : ∀ i, gM (c i) i t) : ∀ f i, i ≤ t → gW (gN K c f i) i t
  | 0, i, _ => fun z => by cases z
  | f + 1, i, hi => by
    unfold gN
    split
    · exact gM_W (gM_s (gB_M (hc _) (fun j _ h2 => gN_W hc f j h2)))
    · exact fun _ => ⟨Nat.le_refl _, hi⟩
theorem gL_f {K : Nat → Int} {c : Nat → GR} {t : Nat} (hc : ∀ i, gM (c i) i t) : ∀ (k f f' i : Nat), t + 1 ≤ i + k → t + 1 ≤ i + f → t + 1 ≤ i + f' → i ≤ t → gL K c f i = gL K c f' i
  | 0, f, f', i, h0, h1, h2, hi => by omega
  | k + 1, f, f', i, h0, h1, h2, hi => by
    cases f with
    | zero => omega
    | succ f =>
      cases f' with
      | zero => omega
      | succ f' =>
        unfold gL
        rw [gB_e (gM_s (hc (i + 1))) (fun j h3 h4 => gL_f hc k f f' j (by omega) (by omega) (by omega) h4)]
theorem gN_f {K : Nat → Int} {c : Nat → GR} {t : Nat} (hc : ∀ i, gM (c i) i t) : ∀ (k f f' i : Nat), t + 1 ≤ i + k → t + 1 ≤ i + f → t + 1 ≤ i + f' → i ≤ t → gN K c f i = gN K c f' i
  | 0, f, f', i, h0, h1, h2, hi => by omega
  | k + 1, f, f', i, h0, h1, h2, hi => by
    cases f with
    | zero => omega
    | succ f =>
      cases f' with
      | zero => omega
      | succ f' =>
        unfold gN
        rw [gB_e (gM_s (hc (i + 1))) (fun j h3 h4 => gN_f hc k f f' j (by omega) (by omega) (by omega) h4)]
theorem gL_u {K : Nat → Int} {c : Nat → GR} {t i : Nat} (hc : ∀ i, gM (c i) i t) (ht : t ≤ 501) (hi : i ≤ t) : gL K c 600 i = if K i = 1004 ∨ K i = 1003 then gB (c (i + 1)) (gL K c 600) else (0, i) := by
  rw [gL_f hc (t + 1) 600 601 i (by omega) (by omega) (by omega) hi]; rfl
theorem gN_u {K : Nat → Int} {c : Nat → GR} {t i : Nat} (hc : ∀ i, gM (c i) i t) (ht : t ≤ 501) (hi : i ≤ t) : gN K c 600 i = if K i = 1004 then gB (c (i + 1)) (gN K c 600) else (0, i) := by
  rw [gN_f hc (t + 1) 600 601 i (by omega) (by omega) (by omega) hi]; rfl
theorem gO_f {K : Nat → Int} {c : Nat → GR} {t : Nat} (hc : ∀ i, gM (c i) i t) : ∀ (k f f' i : Nat), t + 1 ≤ i + k → t + 1 ≤ i + f → t + 1 ≤ i + f' → i ≤ t → gO K c f i = gO K c f' i
  | 0, f, f', i, h0, h1, h2, hi => by omega
  | k + 1, f, f', i, h0, h1, h2, hi => by
    cases f with
    | zero => omega
    | succ f =>
      cases f' with
      | zero => omega
      | succ f' =>
        unfold gO
        rw [gB_e (gM_s (gB_M (hc (i + 1)) (fun j _ h2 => gN_W hc 600 j h2))) (fun j h3 h4 => gO_f hc k f f' j (by omega) (by omega) (by omega) h4)]
theorem gO_u {K : Nat → Int} {c : Nat → GR} {t i : Nat} (hc : ∀ i, gM (c i) i t) (ht : t ≤ 501) (hi : i ≤ t) : gO K c 600 i = if K i = 1003 then gB (gB (c (i + 1)) (gN K c 600)) (gO K c 600) else (0, i) := by
  rw [gO_f hc (t + 1) 600 601 i (by omega) (by omega) (by omega) hi]; rfl
theorem gL_NO {K : Nat → Int} {c : Nat → GR} {t : Nat} (hc : ∀ i, gM (c i) i t) (ht : t ≤ 501) : ∀ (k i : Nat), t + 1 ≤ i + k → i ≤ t → gL K c 600 i = gB (gN K c 600 i) (gO K c 600)
  | 0, i, h0, hi => by omega
  | k + 1, i, h0, hi => by
    have ih : ∀ j, i + 1 ≤ j → j ≤ t → gL K c 600 j = gB (gN K c 600 j) (gO K c 600) := fun j h1 h2 => gL_NO hc ht k j (by omega) h2
    rw [gL_u hc ht hi, gN_u hc ht hi]
    by_cases c1 : K i = 1004
    · rw [if_pos (.inl c1), if_pos c1, gB_as]
      exact gB_e (gM_s (hc _)) ih
    · rw [if_neg c1]
      show _ = gO K c 600 i
      rw [gO_u hc ht hi]
      by_cases c3 : K i = 1003
      · rw [if_pos (.inr c3), if_pos c3, gB_as]
        exact gB_e (gM_s (hc _)) ih
      · rw [if_neg (by omega), if_neg c3]
theorem gC1_M {K V : Nat → Int} {t i : Nat} (h : KZ K t) : gM (gC1 K V i) i t := gB_M (gE_M h) (fun j _ h2 => by
  split
  · exact gM_W (gM_s (gE_M h))
  · exact fun z => by cases z)
theorem gC_M {K V : Nat → Int} {t : Nat} (h : KZ K t) : ∀ d i, gM (gC K V d i) i t
  | 0, i => by
    unfold gC; split
    · exact fun z => by cases z
    · exact gC1_M h
  | d + 1, i => by
    unfold gC; split
    · exact gM_s (gC_M h d (i + 1))
    · split
      · exact gM_s (gB_M (gB_M (gC_M h d (i + 1)) (fun j _ h2 => gL_W (gC_M h d) 600 j h2)) (fun j _ _ => gM_W (gK_M h (by decide))))
      · exact gC1_M h
theorem gB_NO {K V : Nat → Int} {t d i : Nat} (h : KZ K t) (ht : t ≤ 501) : gB_ K V d i = gB (gB (gC K V d i) (gN K (gC K V d) 600)) (gO K (gC K V d) 600) := by
  unfold gB_
  rw [gB_as]
  exact gB_e (gC_M h d i) (fun j _ h2 => gL_NO (gC_M h d) ht (t + 1) j (by omega) h2)
/-! the class's reader: what a method does is what a part of the grammar comes to -/
def SPX (S : Nat → Int) (t : Nat) (D D1 : Nat → Nat → Int) (H : Nat → GR) : Prop :=
  (D 35 2 = 0 → ((H (D 35 8).toNat).1 = 0 ∧ D1 35 2 = 0 ∧ D1 35 3 = D 35 3 ∧ D1 35 8 = ((H (D 35 8).toNat).2 : Int)) ∨ (¬ (H (D 35 8).toNat).1 = 0 ∧ D1 35 2 = (H (D 35 8).toNat).1 ∧ D1 35 3 = S (H (D 35 8).toNat).2 ∧ D1 35 8 = (t : Int))) ∧
  (¬ D 35 2 = 0 → D 35 8 = (t : Int) → D1 35 2 = D 35 2 ∧ D1 35 3 = D 35 3 ∧ D1 35 8 = (t : Int))
def PX (S : Nat → Int) (t : Nat) (F G : Nat → GR) (D0 D : Nat → Nat → Int) : Prop :=
  (D0 35 2 = 0 → (F (D0 35 8).toNat = G (D 35 8).toNat ∧ D 35 2 = 0 ∧ D 35 3 = D0 35 3) ∨ (¬ (F (D0 35 8).toNat).1 = 0 ∧ D 35 2 = (F (D0 35 8).toNat).1 ∧ D 35 3 = S (F (D0 35 8).toNat).2 ∧ D 35 8 = (t : Int))) ∧
  (¬ D0 35 2 = 0 → D0 35 8 = (t : Int) → D 35 2 = D0 35 2 ∧ D 35 3 = D0 35 3 ∧ D 35 8 = (t : Int))
theorem PX_0 {S : Nat → Int} {t : Nat} {F : Nat → GR} {D : Nat → Nat → Int} : PX S t F F D D := ⟨fun z => .inl ⟨rfl, z, rfl⟩, fun _ h => ⟨rfl, rfl, h⟩⟩
theorem PX_st {S : Nat → Int} {t : Nat} {F G G' H : Nat → GR} {D0 D D1 : Nat → Nat → Int} (h : PX S t F G D0 D) (x : SPX S t D D1 H) (hg : D 35 2 = 0 → G (D 35 8).toNat = gB (H (D 35 8).toNat) G') : PX S t F G' D0 D1 := by
  refine ⟨fun z => ?_, fun z y => ?_⟩
  · rcases h.1 z with ⟨a, b, c⟩ | ⟨a, b, c, e⟩
    · have g := hg b
      rcases x.1 b with ⟨p, q, r, s⟩ | ⟨p, q, r, s⟩
      · refine .inl ⟨?_, q, by rw [r, c]⟩
        rw [a, g, gB_ok p, s]; rfl
      · refine .inr ?_
        rw [a, g, gB_no p]
        exact ⟨p, q, r, s⟩
    · have hb : ¬ D 35 2 = 0 := by rw [b]; exact a
      have w := x.2 hb e
      exact .inr ⟨a, by rw [w.1, b], by rw [w.2.1, c], w.2.2⟩
  · have w := h.2 z y
    have hb : ¬ D 35 2 = 0 := by rw [w.1]; exact z
    have w2 := x.2 hb w.2.2
    exact ⟨by rw [w2.1, w.1], by rw [w2.2.1, w.2.1], w2.2.2⟩
theorem PX_sm {S : Nat → Int} {t : Nat} {F G : Nat → GR} {D0 D D1 : Nat → Nat → Int} (h : PX S t F G D0 D) (e2 : D1 35 2 = D 35 2) (e3 : D1 35 3 = D 35 3) (e8 : D1 35 8 = D 35 8) : PX S t F G D0 D1 := by
  unfold PX at h ⊢; rw [e2, e3, e8]; exact h
theorem PX_g {S : Nat → Int} {t : Nat} {F G G' : Nat → GR} {D0 D : Nat → Nat → Int} (h : PX S t F G D0 D) (e : D 35 2 = 0 → G (D 35 8).toNat = G' (D 35 8).toNat) : PX S t F G' D0 D := by
  refine ⟨fun z => ?_, h.2⟩
  rcases h.1 z with ⟨a, b, c⟩ | y
  · exact .inl ⟨by rw [a, e b], b, c⟩
  · exact .inr y
theorem PX_e {S : Nat → Int} {t : Nat} {F : Nat → GR} {D0 D : Nat → Nat → Int} (h : PX S t F gOk D0 D) (h0 : 0 ≤ D 35 8) : SPX S t D0 D F := by
  refine ⟨fun z => ?_, h.2⟩
  rcases h.1 z with ⟨a, b, c⟩ | y
  · refine .inl ?_
    rw [a]
    exact ⟨rfl, b, c, by show _ = (((D 35 8).toNat : Nat) : Int); omega⟩
  · exact .inr y
theorem SPX_inc {S K : Nat → Int} {t : Nat} {D D1 : Nat → Nat → Int} (hz : KZ K t) (hk : ¬ K (D 35 8).toNat = 0) (h0 : 0 ≤ D 35 8) (e8 : D1 35 8 = D 35 8 + 1) (e2 : D1 35 2 = D 35 2) (e3 : D1 35 3 = D 35 3) : SPX S t D D1 (fun i => (0, i + 1)) := by
  refine ⟨fun z => .inl ⟨rfl, by rw [e2, z], e3, ?_⟩, fun z y => absurd (hz (D 35 8).toNat (by omega)) hk⟩
  show _ = (((D 35 8).toNat + 1 : Nat) : Int); omega
theorem SPX_no {S : Nat → Int} {t : Nat} {D D1 : Nat → Nat → Int} {k : Int} (hk : ¬ k = 0) (h1 : D 35 2 = 0 → D1 35 2 = k ∧ D1 35 3 = S (D 35 8).toNat) (h2 : ¬ D 35 2 = 0 → D1 35 2 = D 35 2 ∧ D1 35 3 = D 35 3) (h8 : D1 35 8 = (t : Int)) : SPX S t D D1 (fun i => (k, i)) :=
  ⟨fun z => .inr ⟨hk, (h1 z).1, (h1 z).2, h8⟩, fun z _ => ⟨(h2 z).1, (h2 z).2, h8⟩⟩
/-- the class's tokens -/
def TKc (K V S : Nat → Int) (t : Nat) (D : Nat → Nat → Int) : Prop := D 35 7 = (t : Int) + 1 ∧ ∀ i : Nat, i ≤ t → D 37 i = K i ∧ (K i = 2 → D 38 i = V i ∧ 0 ≤ V i ∧ V i ≤ 9999) ∧ D 39 i = S i
theorem TKc_fr {K V S : Nat → Int} {t : Nat} {L : List Nat} {D D1 : Nat → Nat → Int} (h : TKc K V S t D) (hF : Fr L D D1) (h1 : 37 ∉ L) (h2 : 38 ∉ L) (h3 : 39 ∉ L) (e : D1 35 7 = D 35 7) : TKc K V S t D1 :=
  ⟨by rw [e]; exact h.1, fun i hi => by rw [hF 37 h1, hF 38 h2, hF 39 h3]; exact h.2 i hi⟩
theorem TKc_k {K V S : Nat → Int} {t : Nat} {D : Nat → Nat → Int} {p : Int} (h : TKc K V S t D) (h0 : 0 ≤ p ∧ p ≤ t) : D 37 p.toNat = K p.toNat := (h.2 p.toNat (by omega)).1
theorem TKc_v {K V S : Nat → Int} {t : Nat} {D : Nat → Nat → Int} {p : Int} (h : TKc K V S t D) (h0 : 0 ≤ p ∧ p ≤ t) (hk : K p.toNat = 2) : D 38 p.toNat = V p.toNat ∧ 0 ≤ V p.toNat ∧ V p.toNat ≤ 9999 := (h.2 p.toNat (by omega)).2.1 hk
theorem TKc_s {K V S : Nat → Int} {t : Nat} {D : Nat → Nat → Int} {p : Int} (h : TKc K V S t D) (h0 : 0 ≤ p ∧ p ≤ t) : D 39 p.toNat = S p.toNat := (h.2 p.toNat (by omega)).2.2
theorem KLIVE {K : Nat → Int} {t : Nat} {D : Nat → Nat → Int} (hz : KZ K t) (hk : ¬ K (D 35 8).toNat = 0) (h0 : 0 ≤ D 35 8) (hd : ¬ D 35 2 = 0 → D 35 8 = (t : Int)) : D 35 2 = 0 ∧ D 35 8 + 1 ≤ (t : Int) := by
  have := KZ_lt hz hk
  refine ⟨?_, by omega⟩
  apply Decidable.byContradiction
  intro z
  exact hk (hz _ (by have := hd z; omega))
theorem gA0_n {K V : Nat → Int} {a w : Int} {j : Nat} (h : ¬ a = 4) : gA0 K V a w j = gA1 K V a j := by unfold gA0; rw [if_neg h]; rfl
theorem gA0_p {K V : Nat → Int} {a w : Int} {j : Nat} (h : a = 4) : gA0 K V a w j = gB (gOt K V w j) (gA1 K V a) := by unfold gA0; rw [if_pos h]
theorem gA1_n {K V : Nat → Int} {a : Int} {j : Nat} (h : ¬ (a = 2 ∨ a = 3 ∨ a = 4)) : gA1 K V a j = gA2 K V a j := by unfold gA1; rw [if_neg h]; rfl
theorem gA1_p {K V : Nat → Int} {a : Int} {j : Nat} (h : a = 2 ∨ a = 3 ∨ a = 4) : gA1 K V a j = gB (gA K V 2 j) (gA2 K V a) := by unfold gA1; rw [if_pos h]
theorem gA2_n {K V : Nat → Int} {a : Int} {j : Nat} (h : ¬ (a = 2 ∨ a = 3 ∨ a = 4 ∨ a = 5)) : gA2 K V a j = gA3 K V a j := by unfold gA2; rw [if_neg h]; rfl
theorem gA2_p {K V : Nat → Int} {a : Int} {j : Nat} (h : a = 2 ∨ a = 3 ∨ a = 4 ∨ a = 5) : gA2 K V a j = gB (gA K V 3 j) (gA3 K V a) := by unfold gA2; rw [if_pos h]
theorem gA3_n {K V : Nat → Int} {a : Int} {j : Nat} (h : ¬ a = 6) : gA3 K V a j = gOk j := by unfold gA3; rw [if_neg h]; rfl
theorem gA3_p {K V : Nat → Int} {a : Int} {j : Nat} (h : a = 6) : gA3 K V a j = gB (gA K V 1 j) gOk := by rw [gB_id]; unfold gA3; rw [if_pos h]
theorem gAc_p {K V : Nat → Int} {a : Int} {i : Nat} (h : a = 8) : gAc K V a i = gB (gA K V 1 i) gOk := by rw [gB_id]; unfold gAc; rw [if_pos h]
theorem gAc_n {K V : Nat → Int} {a : Int} {i : Nat} (h : ¬ a = 8) : gAc K V a i = gB (gA K V 3 i) (gA0 K V a (V i)) := by unfold gAc; rw [if_neg h]
theorem gC_1 {K V : Nat → Int} {d i : Nat} (h : ¬ K i = 1005) (h2 : ¬ K i = 40) : gC K V d i = gC1 K V i := by
  cases d with
  | zero => unfold gC; rw [if_neg (by omega)]
  | succ d => unfold gC; rw [if_neg h, if_neg h2]
theorem gC_3 {K V : Nat → Int} {i : Nat} (h : K i = 1005 ∨ K i = 40) : gC K V 0 i = (3, i) := by unfold gC; rw [if_pos h]
theorem gC_n {K V : Nat → Int} {d i : Nat} (h : K i = 1005) : gC K V (d + 1) i = gC K V d (i + 1) := by
  show (if K i = 1005 then _ else _) = _
  rw [if_pos h]
theorem gC_p {K V : Nat → Int} {d i : Nat} (h : K i = 40) : gC K V (d + 1) i = gB (gB_ K V d (i + 1)) (gK K 41) := by
  show (if K i = 1005 then _ else if K i = 40 then _ else _) = _
  rw [if_neg (by omega), if_pos h]; rfl
def gR1 (K V : Nat → Int) (j : Nat) : GR := if K j = 60 ∨ K j = 61 ∨ K j = 62 then gE K V (j + 1) else (1, j)
theorem gC1_R {K V : Nat → Int} {i : Nat} : gC1 K V i = gB (gE K V i) (gR1 K V) := rfl
def gL2 (K V : Nat → Int) (j : Nat) : GR := gB (if K j = 1002 then gB_ K V 8 (j + 1) else (0, j)) (gK K 59)
def gL1 (K V : Nat → Int) (j : Nat) : GR := gB (gE K V j) (gL2 K V)
theorem gLine_p {K V : Nat → Int} {i : Nat} (h : K i = 1001) : gLine K V i = gL1 K V (i + 1) := by unfold gLine; rw [if_pos h]; rfl
theorem gLine_r {K V : Nat → Int} {i : Nat} (h : ¬ K i = 1001) : gLine K V i = gB (gA K V 7 (i + 1)) (gL1 K V) := by unfold gLine; rw [if_neg h]; rfl
theorem gL2_w {K V : Nat → Int} {j : Nat} (h : K j = 1002) : gL2 K V j = gB (gB_ K V 8 (j + 1)) (gK K 59) := by unfold gL2; rw [if_pos h]
theorem gL2_n {K V : Nat → Int} {j : Nat} (h : ¬ K j = 1002) : gL2 K V j = gB (gK K 59 j) gOk := by rw [gB_id]; unfold gL2; rw [if_neg h]; rfl
theorem gOt_M {K V : Nat → Int} {t i : Nat} {w : Int} (h : KZ K t) : gM (gOt K V w i) i t := by
  unfold gOt; split
  · exact fun z => by cases z
  · exact gA_M h
theorem g0_W {i t : Nat} (hi : i ≤ t) : gW ((0, i) : GR) i t := fun _ => ⟨Nat.le_refl _, hi⟩
theorem gA3_W {K V : Nat → Int} {t i : Nat} {a : Int} (h : KZ K t) (hi : i ≤ t) : gW (gA3 K V a i) i t := by
  unfold gA3; split
  · exact gM_W (gA_M h)
  · exact g0_W hi
theorem gA2_W {K V : Nat → Int} {t i : Nat} {a : Int} (h : KZ K t) (hi : i ≤ t) : gW (gA2 K V a i) i t := by
  unfold gA2
  refine gB_W ?_ (fun j _ h2 => gA3_W h h2)
  split
  · exact gM_W (gA_M h)
  · exact g0_W hi
theorem gA1_W {K V : Nat → Int} {t i : Nat} {a : Int} (h : KZ K t) (hi : i ≤ t) : gW (gA1 K V a i) i t := by
  unfold gA1
  refine gB_W ?_ (fun j _ h2 => gA2_W h h2)
  split
  · exact gM_W (gA_M h)
  · exact g0_W hi
theorem gA0_W {K V : Nat → Int} {t i : Nat} {a w : Int} (h : KZ K t) (hi : i ≤ t) : gW (gA0 K V a w i) i t := by
  unfold gA0
  refine gB_W ?_ (fun j _ h2 => gA1_W h h2)
  split
  · exact gM_W (gOt_M h)
  · exact g0_W hi
theorem gAct_M {K V : Nat → Int} {t i : Nat} {a : Int} (h : KZ K t) : gM (gAct K V a i) i t := by
  unfold gAct
  refine gB_M ?_ (fun j _ h2 => gM_W (gK_M h (by decide)))
  unfold gAc; split
  · exact gA_M h
  · exact gB_M (gA_M h) (fun j _ h2 => gA0_W h h2)
theorem gL2_W {K V : Nat → Int} {t i : Nat} (h : KZ K t) (hi : i ≤ t) : gW (gL2 K V i) i t := by
  unfold gL2
  refine gB_W ?_ (fun j _ h2 => gM_W (gK_M h (by decide)))
  split
  · exact gM_W (gM_s (gB_M (gC_M h 8 (i + 1)) (fun j _ h2 => gL_W (gC_M h 8) 600 j h2)))
  · exact g0_W hi
theorem gL1_M {K V : Nat → Int} {t i : Nat} (h : KZ K t) : gM (gL1 K V i) i t := gB_M (gE_M h) (fun j _ h2 => gL2_W h h2)
theorem gLine_M {K V : Nat → Int} {t i : Nat} (h : KZ K t) : gM (gLine K V i) i t := by
  by_cases c : K i = 1001
  · rw [gLine_p c]; exact gM_s (gL1_M h)
  · rw [gLine_r c]; exact gM_s (gB_M (gA_M h) (fun j _ h2 => gM_W (gL1_M h)))
theorem gX_f {K V : Nat → Int} {t : Nat} {s : Int} (h : KZ K t) : ∀ (k f f' i : Nat) (c : Int), t + 1 ≤ i + k → t + 1 ≤ i + f → t + 1 ≤ i + f' → i ≤ t → gX K V s f i c = gX K V s f' i c
  | 0, f, f', i, c, h0, h1, h2, hi => by omega
  | k + 1, f, f', i, c, h0, h1, h2, hi => by
    cases f with
    | zero => omega
    | succ f =>
      cases f' with
      | zero => omega
      | succ f' =>
        unfold gX
        have e1 : (gAct K V (K i - 1000) (i + 1)).1 = 0 → gX K V s f (gAct K V (K i - 1000) (i + 1)).2 (c + 1) = gX K V s f' (gAct K V (K i - 1000) (i + 1)).2 (c + 1) := fun z => by
          have := gAct_M (V := V) (a := K i - 1000) (i := i + 1) h z
          exact gX_f h k f f' _ (c + 1) (by omega) (by omega) (by omega) (by omega)
        have e2 : (gLine K V i).1 = 0 → gX K V s f (gLine K V i).2 (c + 1) = gX K V s f' (gLine K V i).2 (c + 1) := fun z => by
          have := gLine_M (V := V) (i := i) h z
          exact gX_f h k f f' _ (c + 1) (by omega) (by omega) (by omega) (by omega)
        by_cases z1 : (gAct K V (K i - 1000) (i + 1)).1 = 0
        · rw [e1 z1]
          by_cases z2 : (gLine K V i).1 = 0
          · rw [e2 z2]
          · rw [if_neg z2, if_neg z2]
        · rw [if_neg z1, if_neg z1]
          by_cases z2 : (gLine K V i).1 = 0
          · rw [e2 z2]
          · rw [if_neg z2, if_neg z2]
theorem gX_u {K V : Nat → Int} {t i : Nat} {s c : Int} (h : KZ K t) (ht : t ≤ 501) (hi : i ≤ t) : gX K V s 600 i c = if K i = 0 then (0, i, c)
    else if s = 0 then (if ¬ (1000 ≤ K i ∧ K i ≤ 1008) then (1, i, c) else if 24 ≤ c then (3, i, c) else if (gAct K V (K i - 1000) (i + 1)).1 = 0 then gX K V s 600 (gAct K V (K i - 1000) (i + 1)).2 (c + 1) else ((gAct K V (K i - 1000) (i + 1)).1, (gAct K V (K i - 1000) (i + 1)).2, c))
    else (if ¬ (K i = 1000 ∨ K i = 1001) then (1, i, c) else if 16 ≤ c then (3, i, c) else if (gLine K V i).1 = 0 then gX K V s 600 (gLine K V i).2 (c + 1) else ((gLine K V i).1, (gLine K V i).2, c)) := by
  rw [gX_f h (t + 1) 600 601 i c (by omega) (by omega) (by omega) hi]
  rfl
/-- the whole TEXT, so far -/
def TX (K V S : Nat → Int) (t : Nat) (s : Int) (F : Int × Nat × Int) (D : Nat → Nat → Int) (c : Int) : Prop := (D 35 2 = 0 ∧ D 35 3 = -1 ∧ F = gX K V s 600 (D 35 8).toNat c) ∨ (¬ D 35 2 = 0 ∧ D 35 2 = F.1 ∧ D 35 3 = S F.2.1)
theorem TX_0 {K V S : Nat → Int} {t : Nat} {s : Int} {D : Nat → Nat → Int} (h2 : D 35 2 = 0) (h3 : D 35 3 = -1) (h8 : D 35 8 = 0) : TX K V S t s (gX K V s 600 0 0) D 0 := .inl ⟨h2, h3, by rw [h8]; rfl⟩
theorem TX_no {K V S : Nat → Int} {t : Nat} {s c k : Int} {F : Int × Nat × Int} {D D1 : Nat → Nat → Int} (h : TX K V S t s F D c) (hl : D 35 2 = 0) (x : SPX S t D D1 (fun i => (k, i))) (hk : ¬ k = 0) (e : gX K V s 600 (D 35 8).toNat c = (k, (D 35 8).toNat, c)) (c' : Int) : TX K V S t s F D1 c' := by
  rcases h with ⟨_, _, a⟩ | ⟨a, _⟩
  · rcases x.1 hl with ⟨p, _⟩ | ⟨p, q, r, _⟩
    · exact absurd p hk
    · refine .inr ?_
      rw [a, e]
      exact ⟨by rw [q]; exact p, q, r⟩
  · exact absurd hl a
theorem TX_st {K V S : Nat → Int} {t : Nat} {s c : Int} {F : Int × Nat × Int} {D D0 D1 : Nat → Nat → Int} {H : Nat → GR} (h : TX K V S t s F D c) (hl : D 35 2 = 0) (e2 : D0 35 2 = D 35 2) (e3 : D0 35 3 = D 35 3) (x : SPX S t D0 D1 H) (e : gX K V s 600 (D 35 8).toNat c = if (H (D0 35 8).toNat).1 = 0 then gX K V s 600 (H (D0 35 8).toNat).2 (c + 1) else ((H (D0 35 8).toNat).1, (H (D0 35 8).toNat).2, c)) : TX K V S t s F D1 (c + 1) := by
  rcases h with ⟨_, b, a⟩ | ⟨a, _⟩
  · rcases x.1 (by rw [e2]; exact hl) with ⟨p, q, r, w⟩ | ⟨p, q, r, w⟩
    · refine .inl ⟨q, by rw [r, e3, b], ?_⟩
      rw [a, e, if_pos p, w]; rfl
    · refine .inr ?_
      rw [a, e, if_neg p]
      exact ⟨by rw [q]; exact p, q, r⟩
  · exact absurd hl a
def TXE (S : Nat → Int) (F : Int × Nat × Int) (D : Nat → Nat → Int) (v : Int) : Prop := (F.1 = 0 ∧ D 35 2 = 0 ∧ D 35 3 = -1 ∧ v = F.2.2) ∨ (¬ F.1 = 0 ∧ D 35 2 = F.1 ∧ D 35 3 = S F.2.1)
theorem TX_e {K V S : Nat → Int} {t : Nat} {s c : Int} {F : Int × Nat × Int} {D : Nat → Nat → Int} (h : TX K V S t s F D c) (hz : KZ K t) (ht : t ≤ 501) (h8 : D 35 8 ≤ (t : Int)) (h0 : 0 ≤ D 35 8) (hk : D 35 2 = 0 → K (D 35 8).toNat = 0) : TXE S F D c := by
  rcases h with ⟨a, b, e⟩ | ⟨a, b, e⟩
  · refine .inl ?_
    rw [e, gX_u hz ht (by omega), if_pos (hk a)]
    exact ⟨rfl, a, b, rfl⟩
  · exact .inr ⟨by rw [← b]; exact a, b, e⟩
