/-! ACTS: what an act says, by its tokens -/
def ATT (V : Nat → Int) (a : Int) (j : Nat) : Int := if a = 4 then V (j + 2) else V (j + 1)
def ABB (V : Nat → Int) (a : Int) (j : Nat) : Int := if a = 4 then V (j + 3) else if a = 2 ∨ a = 3 then V (j + 2) else V (j + 1)
/-- the class's whole number for the act of kind a whose parts begin at token j -/
def AE (act a : Int) (V : Nat → Int) (j : Nat) : Prop := ADEC act a (V j) (ATT V a j) (ABB V a j) (V (j + 1))
theorem dk0 : ∀ a : Fin 9, ∀ x : Fin 4, a.val = 0 ∨ a.val = 1 ∨ a.val = 7 → am_and (am_or (a.val : Int) (am_shl (x.val : Int) 4)) 15 = (a.val : Int) ∧ am_and (am_shr (am_or (a.val : Int) (am_shl (x.val : Int) 4)) 8) 3 ≤ 2 ∧ am_and (am_shr (am_or (a.val : Int) (am_shl (x.val : Int) 4)) 4) 3 = (x.val : Int) := by decide +kernel
theorem dk2 : ∀ a : Fin 9, ∀ x : Fin 4, ∀ t : Fin 3, ∀ b : Fin 4, a.val = 2 ∨ a.val = 3 → am_and (am_or (am_or (am_or (a.val : Int) (am_shl (x.val : Int) 4)) (am_shl (t.val : Int) 8)) (am_shl (b.val : Int) 10)) 15 = (a.val : Int) ∧ am_and (am_shr (am_or (am_or (am_or (a.val : Int) (am_shl (x.val : Int) 4)) (am_shl (t.val : Int) 8)) (am_shl (b.val : Int) 10)) 4) 3 = (x.val : Int) ∧ am_and (am_shr (am_or (am_or (am_or (a.val : Int) (am_shl (x.val : Int) 4)) (am_shl (t.val : Int) 8)) (am_shl (b.val : Int) 10)) 8) 3 = (t.val : Int) ∧ am_and (am_shr (am_or (am_or (am_or (a.val : Int) (am_shl (x.val : Int) 4)) (am_shl (t.val : Int) 8)) (am_shl (b.val : Int) 10)) 10) 3 = (b.val : Int) := by decide +kernel
theorem dk4 : ∀ x : Fin 4, ∀ v : Fin 4, ∀ t : Fin 3, ∀ b : Fin 4, am_and (am_or (am_or (am_or (am_or 4 (am_shl (x.val : Int) 4)) (am_shl (v.val : Int) 6)) (am_shl (t.val : Int) 8)) (am_shl (b.val : Int) 10)) 15 = 4 ∧ am_and (am_shr (am_or (am_or (am_or (am_or 4 (am_shl (x.val : Int) 4)) (am_shl (v.val : Int) 6)) (am_shl (t.val : Int) 8)) (am_shl (b.val : Int) 10)) 4) 3 = (x.val : Int) ∧ am_and (am_shr (am_or (am_or (am_or (am_or 4 (am_shl (x.val : Int) 4)) (am_shl (v.val : Int) 6)) (am_shl (t.val : Int) 8)) (am_shl (b.val : Int) 10)) 6) 3 = (v.val : Int) ∧ am_and (am_shr (am_or (am_or (am_or (am_or 4 (am_shl (x.val : Int) 4)) (am_shl (v.val : Int) 6)) (am_shl (t.val : Int) 8)) (am_shl (b.val : Int) 10)) 8) 3 = (t.val : Int) ∧ am_and (am_shr (am_or (am_or (am_or (am_or 4 (am_shl (x.val : Int) 4)) (am_shl (v.val : Int) 6)) (am_shl (t.val : Int) 8)) (am_shl (b.val : Int) 10)) 10) 3 = (b.val : Int) := by decide +kernel
theorem dk5 : ∀ x : Fin 4, ∀ b : Fin 4, am_and (am_or (am_or 5 (am_shl (x.val : Int) 4)) (am_shl (b.val : Int) 10)) 15 = 5 ∧ am_and (am_shr (am_or (am_or 5 (am_shl (x.val : Int) 4)) (am_shl (b.val : Int) 10)) 8) 3 ≤ 2 ∧ am_and (am_shr (am_or (am_or 5 (am_shl (x.val : Int) 4)) (am_shl (b.val : Int) 10)) 4) 3 = (x.val : Int) ∧ am_and (am_shr (am_or (am_or 5 (am_shl (x.val : Int) 4)) (am_shl (b.val : Int) 10)) 10) 3 = (b.val : Int) := by decide +kernel
theorem dk6 : ∀ x : Fin 4, ∀ b : Fin 2, am_and (am_or (am_or 6 (am_shl (x.val : Int) 4)) (am_shl (b.val : Int) 12)) 15 = 6 ∧ am_and (am_shr (am_or (am_or 6 (am_shl (x.val : Int) 4)) (am_shl (b.val : Int) 12)) 8) 3 ≤ 2 ∧ am_and (am_shr (am_or (am_or 6 (am_shl (x.val : Int) 4)) (am_shl (b.val : Int) 12)) 4) 3 = (x.val : Int) ∧ am_and (am_shr (am_or (am_or 6 (am_shl (x.val : Int) 4)) (am_shl (b.val : Int) 12)) 12) 1 = (b.val : Int) := by decide +kernel
theorem dk8 : ∀ x : Fin 2, am_and (am_or 8 (am_shl (x.val : Int) 13)) 15 = 8 ∧ am_and (am_shr (am_or 8 (am_shl (x.val : Int) 13)) 8) 3 ≤ 2 ∧ am_and (am_shr (am_or 8 (am_shl (x.val : Int) 13)) 13) 1 = (x.val : Int) := by decide +kernel
theorem fin_i {x : Int} {n : Nat} (h : 0 ≤ x ∧ x < n) : ∃ f : Fin n, (f.val : Int) = x := ⟨⟨x.toNat, by omega⟩, by show ((x.toNat : Nat) : Int) = x; omega⟩
theorem AE_0 {act a x : Int} {V : Nat → Int} {j : Nat} (ha : a = 0 ∨ a = 1 ∨ a = 7) (hx : 0 ≤ x ∧ x ≤ 3) (ex : x = V j) (e : act = am_or a (am_shl x 4)) : AE act a V j := by
  obtain ⟨fa, ea⟩ := fin_i (x := a) (n := 9) (by omega)
  obtain ⟨fx, exx⟩ := fin_i (x := x) (n := 4) (by omega)
  have z := dk0 fa fx (by omega)
  rw [ea, exx, ← e] at z
  unfold AE ADEC
  rw [← ex]
  exact ⟨z.1, by omega, z.2.1, fun _ => z.2.2, fun y => by omega, fun y => by omega, fun y => by omega, fun y => by omega, fun y => by omega⟩
theorem AE_2 {act a x t b : Int} {V : Nat → Int} {j : Nat} (ha : a = 2 ∨ a = 3) (hx : 0 ≤ x ∧ x ≤ 3) (ht : 0 ≤ t ∧ t ≤ 2) (hb : 0 ≤ b ∧ b ≤ 3) (ex : x = V j) (et : t = V (j + 1)) (eb : b = V (j + 2)) (e : act = am_or (am_or (am_or a (am_shl x 4)) (am_shl t 8)) (am_shl b 10)) : AE act a V j := by
  obtain ⟨fa, ea⟩ := fin_i (x := a) (n := 9) (by omega)
  obtain ⟨fx, exx⟩ := fin_i (x := x) (n := 4) (by omega)
  obtain ⟨ft, ett⟩ := fin_i (x := t) (n := 3) (by omega)
  obtain ⟨fb, ebb⟩ := fin_i (x := b) (n := 4) (by omega)
  have z := dk2 fa fx ft fb (by omega)
  rw [ea, exx, ett, ebb, ← e] at z
  unfold AE ADEC ATT ABB
  rw [if_neg (by omega), if_neg (by omega), if_pos ha, ← ex, ← et, ← eb]
  exact ⟨z.1, by omega, by omega, fun _ => z.2.1, fun y => by omega, fun _ => z.2.2.1, fun _ => z.2.2.2, fun y => by omega, fun y => by omega⟩
theorem AE_4 {act a x v t b : Int} {V : Nat → Int} {j : Nat} (ha : a = 4) (hx : 0 ≤ x ∧ x ≤ 3) (hv : 0 ≤ v ∧ v ≤ 3) (ht : 0 ≤ t ∧ t ≤ 2) (hb : 0 ≤ b ∧ b ≤ 3) (hn : ¬ v = x) (ex : x = V j) (ev : v = V (j + 1)) (et : t = V (j + 2)) (eb : b = V (j + 3)) (e : act = am_or (am_or (am_or (am_or a (am_shl x 4)) (am_shl v 6)) (am_shl t 8)) (am_shl b 10)) : AE act a V j := by
  subst ha
  obtain ⟨fx, exx⟩ := fin_i (x := x) (n := 4) (by omega)
  obtain ⟨fv, evv⟩ := fin_i (x := v) (n := 4) (by omega)
  obtain ⟨ft, ett⟩ := fin_i (x := t) (n := 3) (by omega)
  obtain ⟨fb, ebb⟩ := fin_i (x := b) (n := 4) (by omega)
  have z := dk4 fx fv ft fb
  rw [exx, evv, ett, ebb, ← e] at z
  unfold AE ADEC ATT ABB
  rw [if_pos rfl, if_pos rfl, ← ex, ← ev, ← et, ← eb]
  exact ⟨z.1, by omega, by omega, fun _ => z.2.1, fun y => by omega, fun _ => z.2.2.2.1, fun _ => z.2.2.2.2, fun y => by omega, fun _ => ⟨z.2.2.1, by omega⟩⟩
theorem AE_5 {act a x b : Int} {V : Nat → Int} {j : Nat} (ha : a = 5) (hx : 0 ≤ x ∧ x ≤ 3) (hb : 0 ≤ b ∧ b ≤ 3) (ex : x = V j) (eb : b = V (j + 1)) (e : act = am_or (am_or a (am_shl x 4)) (am_shl b 10)) : AE act a V j := by
  subst ha
  obtain ⟨fx, exx⟩ := fin_i (x := x) (n := 4) (by omega)
  obtain ⟨fb, ebb⟩ := fin_i (x := b) (n := 4) (by omega)
  have z := dk5 fx fb
  rw [exx, ebb, ← e] at z
  unfold AE ADEC ATT ABB
  rw [if_neg (by omega), if_neg (by omega), if_neg (by omega), ← ex, ← eb]
  exact ⟨z.1, by omega, z.2.1, fun _ => z.2.2.1, fun y => by omega, fun y => by omega, fun _ => z.2.2.2, fun y => by omega, fun y => by omega⟩
theorem AE_6 {act a x b : Int} {V : Nat → Int} {j : Nat} (ha : a = 6) (hx : 0 ≤ x ∧ x ≤ 3) (hb : 0 ≤ b ∧ b ≤ 1) (ex : x = V j) (eb : b = V (j + 1)) (e : act = am_or (am_or a (am_shl x 4)) (am_shl b 12)) : AE act a V j := by
  subst ha
  obtain ⟨fx, exx⟩ := fin_i (x := x) (n := 4) (by omega)
  obtain ⟨fb, ebb⟩ := fin_i (x := b) (n := 2) (by omega)
  have z := dk6 fx fb
  rw [exx, ebb, ← e] at z
  unfold AE ADEC ATT ABB
  rw [if_neg (by omega), if_neg (by omega), if_neg (by omega), ← ex, ← eb]
  exact ⟨z.1, by omega, z.2.1, fun _ => z.2.2.1, fun y => by omega, fun y => by omega, fun y => by omega, fun _ => z.2.2.2, fun y => by omega⟩
theorem AE_8 {act a x : Int} {V : Nat → Int} {j : Nat} (ha : a = 8) (hx : 0 ≤ x ∧ x ≤ 1) (ex : x = V j) (e : act = am_or a (am_shl x 13)) : AE act a V j := by
  subst ha
  obtain ⟨fx, exx⟩ := fin_i (x := x) (n := 2) (by omega)
  have z := dk8 fx
  rw [exx, ← e] at z
  unfold AE ADEC
  rw [← ex]
  exact ⟨z.1, by omega, z.2.1, fun y => by omega, fun _ => z.2.2, fun y => by omega, fun y => by omega, fun y => by omega, fun y => by omega⟩
theorem gA_at {K V : Nat → Int} {m : Int} {i : Nat} (h : (gA K V m i).1 = 0) : (gA K V m i).2 = i + 1 := by
  unfold gA at h ⊢
  split at h
  · rename_i c; rw [if_pos c]
    split at h
    · rename_i c2; rw [if_pos c2]
    · cases h
  · cases h
theorem gK_at {K : Nat → Int} {k : Int} {i : Nat} (h : (gK K k i).1 = 0) : (gK K k i).2 = i + 1 := by
  unfold gK at h ⊢
  split at h
  · rename_i c; rw [if_pos c]
  · cases h
theorem gOt_at {K V : Nat → Int} {w : Int} {i : Nat} (h : (gOt K V w i).1 = 0) : (gOt K V w i).2 = i + 1 := by
  unfold gOt at h ⊢
  split at h
  · cases h
  · rename_i c; rw [if_neg c]; exact gA_at h
/-- it went well, so it went well before, and one token was taken -/
theorem SPX_at {S : Nat → Int} {t : Nat} {D D1 : Nat → Nat → Int} {H : Nat → GR} (x : SPX S t D D1 H) (h8 : ¬ D 35 2 = 0 → D 35 8 = (t : Int)) (h0 : 0 ≤ D 35 8) (hH : ∀ i, (H i).1 = 0 → (H i).2 = i + 1) : D1 35 2 = 0 → D 35 2 = 0 ∧ D1 35 8 = D 35 8 + 1 := by
  intro z
  by_cases c : D 35 2 = 0
  · refine ⟨c, ?_⟩
    rcases x.1 c with ⟨a, _, _, e⟩ | ⟨a, b, _⟩
    · rw [e, hH _ a]; omega
    · rw [z] at b; exact absurd b.symm a
  · exact absurd ((x.2 c (h8 c)).1 ▸ z) c
/-- the token at which an act begins -/
def gpos (K V : Nat → Int) : Nat → Nat
  | 0 => 0
  | c + 1 => (gAct K V (K (gpos K V c) - 1000) (gpos K V c + 1)).2
/-- the acts that were read so far: where it stands, and what was kept in g -/
def POSI (K V : Nat → Int) (D : Nat → Nat → Int) (c : Int) : Prop := D 35 2 = 0 → (D 35 8).toNat = gpos K V c.toNat ∧ ∀ q : Nat, (q : Int) < c → AE (D 40 q) (K (gpos K V q) - 1000) V (gpos K V q + 1)
theorem POSI_0 {K V : Nat → Int} {D : Nat → Nat → Int} (h8 : D 35 8 = 0) : POSI K V D 0 := fun _ => ⟨by rw [h8]; rfl, fun q hq => by omega⟩
theorem POSI_s {K V S : Nat → Int} {t : Nat} {D D0 D1 : Nat → Nat → Int} {c a v : Int} (h : POSI K V D c) (hl : D 35 2 = 0) (h0 : 0 ≤ D 35 8) (hc : 0 ≤ c) (e8 : D0 35 8 = D 35 8 + 1) (e2 : D0 35 2 = D 35 2) (ea : K (D 35 8).toNat - 1000 = a) (x : SPX S t D0 D1 (gAct K V a)) (ev : D1 35 2 = 0 → AE v a V (D0 35 8).toNat) (k1 : D1 40 c.toNat = v) (k2 : ∀ j : Nat, (j : Int) < c → D1 40 j = D 40 j) : POSI K V D1 (c + 1) := by
  intro z
  have p := h hl
  have en : (D0 35 8).toNat = gpos K V c.toNat + 1 := by rw [e8, ← p.1]; omega
  have ek : K (gpos K V c.toNat) - 1000 = a := by rw [← p.1]; exact ea
  refine ⟨?_, fun q hq => ?_⟩
  · rw [show (c + 1).toNat = c.toNat + 1 by omega]
    show _ = (gAct K V (K (gpos K V c.toNat) - 1000) (gpos K V c.toNat + 1)).2
    rw [ek, ← en]
    rcases x.1 (by rw [e2]; exact hl) with ⟨_, _, _, e⟩ | ⟨b, e, _⟩
    · rw [e]; exact Int.toNat_natCast _
    · rw [z] at e; exact absurd e.symm b
  · by_cases c2 : (q : Int) < c
    · rw [k2 q c2]; exact p.2 q c2
    · have eq : q = c.toNat := by omega
      subst eq
      rw [k1, ek, ← en]; exact ev z
theorem POSI_no {K V : Nat → Int} {D1 : Nat → Nat → Int} {c : Int} (h : ¬ D1 35 2 = 0) : POSI K V D1 c := fun z => absurd z h
/-- a call went well: it stands where its grammar says -/
theorem SPX_ok {S : Nat → Int} {t : Nat} {D D1 : Nat → Nat → Int} {H : Nat → GR} (x : SPX S t D D1 H) (h8 : ¬ D 35 2 = 0 → D 35 8 = (t : Int)) (z : D1 35 2 = 0) : D 35 2 = 0 ∧ (H (D 35 8).toNat).1 = 0 ∧ (D1 35 8).toNat = (H (D 35 8).toNat).2 := by
  by_cases c : D 35 2 = 0
  · rcases x.1 c with ⟨a, _, _, e⟩ | ⟨a, e, _⟩
    · exact ⟨c, a, by rw [e]; exact Int.toNat_natCast _⟩
    · rw [z] at e; exact absurd e.symm a
  · have := (x.2 c (h8 c)).1; rw [z] at this; exact absurd this.symm c
theorem gA_k {K V : Nat → Int} {m : Int} {i : Nat} (h : (gA K V m i).1 = 0) : K i = 2 ∧ V i ≤ m := by
  unfold gA at h
  split at h
  · rename_i c
    split at h
    · rename_i c2; exact ⟨c, c2⟩
    · cases h
  · cases h
