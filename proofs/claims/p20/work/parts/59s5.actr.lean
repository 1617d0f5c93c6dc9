/-! ACTS: the reference's, and both alike -/
/-- the reference's five numbers for an act, the l-th, whose keyword is token i -/
def ARF (g : Nat → Int) (l : Int) (K V : Nat → Int) (i : Nat) : Prop := g (5 * l).toNat = K i - 1000 ∧ g ((5 * l) + 1).toNat = V (i + 1) ∧ (K i - 1000 = 2 ∨ K i - 1000 = 3 ∨ K i - 1000 = 4 → g ((5 * l) + 2).toNat = ATT V (K i - 1000) (i + 1)) ∧ (K i - 1000 = 2 ∨ K i - 1000 = 3 ∨ K i - 1000 = 4 ∨ K i - 1000 = 5 → g ((5 * l) + 3).toNat = ABB V (K i - 1000) (i + 1)) ∧ (K i - 1000 = 6 → g ((5 * l) + 3).toNat = V (i + 2)) ∧ (K i - 1000 = 4 → g ((5 * l) + 4).toNat = V (i + 2))
theorem ARF_k {g g' : Nat → Int} {l : Int} {K V : Nat → Int} {i : Nat} (h : ARF g l K V i) (h0 : 0 ≤ l) (k : ∀ j : Nat, (j : Int) < 5 * l + 5 → g' j = g j) : ARF g' l K V i := by
  unfold ARF at h ⊢
  rw [k _ (by omega), k _ (by omega), k _ (by omega), k _ (by omega), k _ (by omega)]
  exact h
/-- what both keep says the same -/
theorem AE_R {act : Int} {f : Nat → Int} {o : Nat} {q : Nat} {K V : Nat → Int} {i : Nat} (h : AE act (K i - 1000) V (i + 1)) (r : ARF (fun j => f (o + j)) (q : Int) K V i) : ADEC act (f (o + 5 * q)) (f (o + 5 * q + 1)) (f (o + 5 * q + 2)) (f (o + 5 * q + 3)) (f (o + 5 * q + 4)) := by
  unfold ARF at r
  dsimp only at r
  rw [show o + (5 * (q : Int)).toNat = o + 5 * q by omega, show o + ((5 * (q : Int)) + 1).toNat = o + 5 * q + 1 by omega, show o + ((5 * (q : Int)) + 2).toNat = o + 5 * q + 2 by omega, show o + ((5 * (q : Int)) + 3).toNat = o + 5 * q + 3 by omega, show o + ((5 * (q : Int)) + 4).toNat = o + 5 * q + 4 by omega] at r
  obtain ⟨r0, r1, r2, r3, r4, r5⟩ := r
  unfold AE ADEC at h
  obtain ⟨h0, h1, h2, h3, h4, h5, h6, h7, h8⟩ := h
  unfold ADEC
  rw [r0]
  refine ⟨h0, h1, h2, fun c => by rw [r1]; exact h3 c, fun c => by rw [r1]; exact h4 c, fun c => by rw [r2 c]; exact h5 c, fun c => by rw [r3 c]; exact h6 c, fun c => ?_, fun c => ?_⟩
  · rw [r4 c, h7 c]
    unfold ABB
    rw [if_neg (by omega), if_neg (by omega)]
  · rw [r5 c, r1]; exact h8 c
theorem gAF_ok {K V : Nat → Int} {l : Int} {i : Nat} (h : (gAF K V l i).1 = 0) : gAF K V l i = gAct K V (K i - 1000) (i + 1) := by
  unfold gAF at h ⊢
  split at h
  · cases h
  · rename_i c; rw [if_neg c]
    split at h
    · cases h
    · rename_i c2; rw [if_neg c2]
/-- the reference's text of a SCENE, so far -/
def TRa (b : Nat → Int) (n t : Nat) (D : Nat → Nat → Int) (c g : Int) : Prop := (g = 1 ∧ gpos (KF 0 b n) (VF b n) c.toNat ≤ t ∧ CUR 0 b n D (gpos (KF 0 b n) (VF b n) c.toNat) ∧ FX 0 b n = gX (KF 0 b n) (VF b n) 0 600 (gpos (KF 0 b n) (VF b n) c.toNat) c) ∨ (g = 0 ∧ ¬ (FX 0 b n).1 = 0 ∧ D 79 17 = (FX 0 b n).1 ∧ D 79 18 = SF b n (FX 0 b n).2.1)
theorem TRa_r {b : Nat → Int} {n t : Nat} {D : Nat → Nat → Int} {c g : Int} (h : TRa b n t D c g) : TRr 0 b n t D c g := by
  rcases h with ⟨a, h1, h2, h3⟩ | y
  · exact .inl ⟨a, _, h1, h2, h3⟩
  · exact .inr y
theorem TRa_0 {b : Nat → Int} {n t : Nat} {D : Nat → Nat → Int} (h : CUP 0 b n D (RN pB b n 0)) : TRa b n t D 0 1 := .inl ⟨rfl, Nat.zero_le _, h, rfl⟩
theorem TRa_g {c g : Int} {b : Nat → Int} {n t : Nat} {D : Nat → Nat → Int} (h : TRa b n t D c g) (hg : g = 1) : gpos (KF 0 b n) (VF b n) c.toNat ≤ t ∧ CUR 0 b n D (gpos (KF 0 b n) (VF b n) c.toNat) ∧ FX 0 b n = gX (KF 0 b n) (VF b n) 0 600 (gpos (KF 0 b n) (VF b n) c.toNat) c := by
  rcases h with ⟨_, y⟩ | ⟨y, _⟩
  · exact y
  · omega
theorem TRa_x {c c' g : Int} {b : Nat → Int} {n t : Nat} {D D1 : Nat → Nat → Int} (h : TRa b n t D c g) (e3 : D1 79 13 = D 79 13) (e4 : D1 79 14 = D 79 14) (e5 : D1 79 15 = D 79 15) (e6 : D1 79 16 = D 79 16) (e7 : D1 79 17 = D 79 17) (e8 : D1 79 18 = D 79 18) (hc : g = 1 → c' = c) : TRa b n t D1 c' g := by
  rcases h with ⟨a, h1, h2, h3⟩ | ⟨a, h1, h2, h3⟩
  · rw [hc a]; exact .inl ⟨a, h1, CUR_sm h2 e3 e4 e5 e6, h3⟩
  · exact .inr ⟨a, h1, by rw [e7]; exact h2, by rw [e8]; exact h3⟩
theorem TRa_s {c v : Int} {b : Nat → Int} {n t i : Nat} {D2 : Nat → Nat → Int} (hx : RSX 0 b n i D2 v (gAF (KF 0 b n) (VF b n) c i)) (hi : i ≤ t) (ei : i = gpos (KF 0 b n) (VF b n) c.toNat) (h0 : 0 ≤ c) (hz : KZ (KF 0 b n) t) (hf : ((gAF (KF 0 b n) (VF b n) c i).1 = 0 → FX 0 b n = gX (KF 0 b n) (VF b n) 0 600 (gAF (KF 0 b n) (VF b n) c i).2 (c + 1)) ∧ (¬ (gAF (KF 0 b n) (VF b n) c i).1 = 0 → (FX 0 b n).1 = (gAF (KF 0 b n) (VF b n) c i).1 ∧ (FX 0 b n).2.1 = (gAF (KF 0 b n) (VF b n) c i).2)) : TRa b n t D2 (if v = 0 then c else c + 1) v := by
  have hm := gAF_M (K := KF 0 b n) (V := VF b n) (l := c) (i := i) hz
  rcases hx with ⟨a, e, h⟩ | ⟨a, e, h1, h2⟩
  · subst e
    rw [if_neg (by decide)]
    have eg : (gAF (KF 0 b n) (VF b n) c i).2 = gpos (KF 0 b n) (VF b n) (c + 1).toNat := by
      rw [gAF_ok a, show (c + 1).toNat = c.toNat + 1 by omega, ei]; rfl
    have e2 := hf.1 a
    rw [eg] at h e2
    exact .inl ⟨rfl, by rw [← eg]; exact (hm a).2, h, e2⟩
  · subst e
    have z := hf.2 a
    exact .inr ⟨rfl, by rw [z.1]; exact a, by rw [z.1]; exact h1, by rw [z.2]; exact h2⟩
theorem cp_in {D : Nat → Nat → Int} {r0 r1 dp n q : Nat} (h : q < n) : am_cp D r0 r1 0 dp n r1 (dp + q) = D r0 q := by
  unfold am_cp
  rw [if_pos ⟨rfl, by omega⟩]
  congr 1; omega
theorem cp_out {D : Nat → Nat → Int} {r0 r1 dp n j : Nat} (h : j < dp ∨ dp + n ≤ j) : am_cp D r0 r1 0 dp n r1 j = D r1 j := by
  unfold am_cp
  rw [if_neg (fun z => by have := z.2; omega)]
/-- what the class keeps of a SCENE -/
def TSA (s k : Int) (b : Nat → Int) (n : Nat) (e v : Int) (A C A1 C1 : Nat → Int) : Prop :=
  (s = 0 ∧ (0 ≤ k ∧ k ≤ 7) ∧ e = 0 → C1 k.toNat = v ∧ (0 ≤ v ∧ v ≤ 24) ∧ (∀ j : Nat, ¬ j = k.toNat → C1 j = C j) ∧ (∀ j : Nat, j < 24 * k.toNat ∨ 24 * k.toNat + 24 ≤ j → A1 j = A j) ∧ ∀ q : Nat, (q : Int) < v → AE (A1 (24 * k.toNat + q)) (KF 0 b n (gpos (KF 0 b n) (VF b n) q) - 1000) (VF b n) (gpos (KF 0 b n) (VF b n) q + 1)) ∧ (¬ (s = 0 ∧ (0 ≤ k ∧ k ≤ 7) ∧ e = 0) → ∀ j : Nat, A1 j = A j ∧ C1 j = C j)
theorem TSA_n {s k : Int} {b : Nat → Int} {n : Nat} {e v : Int} {A C A1 C1 : Nat → Int} (h : ¬ (s = 0 ∧ (0 ≤ k ∧ k ≤ 7) ∧ e = 0)) (hA : ∀ j : Nat, A1 j = A j) (hC : ∀ j : Nat, C1 j = C j) : TSA s k b n e v A C A1 C1 := ⟨fun z => absurd z h, fun _ j => ⟨hA j, hC j⟩⟩
theorem TSA_y {s k : Int} {b : Nat → Int} {n : Nat} {e v v' : Int} {A C A1 C1 A0 C0 F : Nat → Int} (hA : ∀ j : Nat, A0 j = A j) (hC : ∀ j : Nat, C0 j = C j) (q1 : ∀ q : Nat, q < 24 → A1 (24 * k.toNat + q) = F q) (q2 : ∀ j : Nat, j < 24 * k.toNat ∨ 24 * k.toNat + 24 ≤ j → A1 j = A0 j) (q3 : C1 k.toNat = v') (q4 : ∀ j : Nat, ¬ j = k.toNat → C1 j = C0 j) (hv : v' = v) (h0 : 0 ≤ v ∧ v ≤ 24) (hae : ∀ q : Nat, (q : Int) < v → AE (F q) (KF 0 b n (gpos (KF 0 b n) (VF b n) q) - 1000) (VF b n) (gpos (KF 0 b n) (VF b n) q + 1)) (hs : s = 0 ∧ (0 ≤ k ∧ k ≤ 7) ∧ e = 0) : TSA s k b n e v A C A1 C1 := by
  subst hv
  exact ⟨fun _ => ⟨q3, h0, fun j hj => (q4 j hj).trans (hC j), fun j hj => (q2 j hj).trans (hA j), fun q hq => by rw [q1 q (by omega)]; exact hae q hq⟩, fun z => absurd hs z⟩
theorem TSA_k {s k : Int} {b : Nat → Int} {n : Nat} {e v : Int} {A C A1 C1 A2 C2 : Nat → Int} (h : TSA s k b n e v A C A1 C1) (hA : ∀ j : Nat, A2 j = A1 j) (hC : ∀ j : Nat, C2 j = C1 j) : TSA s k b n e v A C A2 C2 := by
  rw [show A2 = A1 from funext hA, show C2 = C1 from funext hC]; exact h
theorem TSA_v {s k : Int} {b : Nat → Int} {n : Nat} {e v e' v' : Int} {A C A1 C1 : Nat → Int} (h : TSA s k b n e v A C A1 C1) (he : e' = e) (hv : v' = v) : TSA s k b n e' v' A C A1 C1 := by subst he; subst hv; exact h
/-- what the reference keeps of a SCENE -/
def TSR (s k : Int) (b : Nat → Int) (n : Nat) (e v : Int) (f f1 : Nat → Int) : Prop :=
  (s = 0 ∧ (0 ≤ k ∧ k ≤ 7) ∧ e = 0 → f1 (6 + k.toNat) = v ∧ (∀ j : Nat, j < 974 → ¬ j = 6 + k.toNat → (j < 14 + 120 * k.toNat ∨ 14 + 120 * k.toNat + 120 ≤ j) → f1 j = f j) ∧ ∀ q : Nat, (q : Int) < v → ARF (fun j => f1 (14 + 120 * k.toNat + j)) (q : Int) (KF 0 b n) (VF b n) (gpos (KF 0 b n) (VF b n) q)) ∧ (¬ (s = 0 ∧ (0 ≤ k ∧ k ≤ 7) ∧ e = 0) → ∀ j : Nat, j < 974 → f1 j = f j)
theorem TSR_n {s k : Int} {b : Nat → Int} {n : Nat} {e v : Int} {f f1 : Nat → Int} (h : ¬ (s = 0 ∧ (0 ≤ k ∧ k ≤ 7) ∧ e = 0)) (hf : ∀ j : Nat, j < 974 → f1 j = f j) : TSR s k b n e v f f1 := ⟨fun z => absurd z h, fun _ => hf⟩
theorem TSR_y {s k : Int} {b : Nat → Int} {n : Nat} {e v l : Int} {f f0 f1 g : Nat → Int} (h0 : ∀ j : Nat, f0 j = f j) (hk : ∀ j : Nat, f1 j = K0 f0 g k l (5 * l) j) (hl : 0 ≤ l ∧ l ≤ 24) (hv : v = l) (ha : ∀ q : Nat, (q : Int) < l → ARF g (q : Int) (KF 0 b n) (VF b n) (gpos (KF 0 b n) (VF b n) q)) (hs : s = 0 ∧ (0 ≤ k ∧ k ≤ 7) ∧ e = 0) : TSR s k b n e v f f1 := by
  subst hv
  refine ⟨fun _ => ⟨?_, fun j _ h1 h2 => ?_, fun q hq => ?_⟩, fun z => absurd hs z⟩
  · rw [hk]; unfold K0; rw [if_pos (by omega)]
  · rw [hk, ← h0 j]; unfold K0; rw [if_neg (by omega), if_neg (by omega)]
  · refine ARF_k (ha q hq) (by omega) (fun j hj => ?_)
    rw [hk]; unfold K0
    rw [if_neg (by omega), if_pos (by omega)]
    congr 1; omega
/-- the scenes stay alike over a TEXT -/
theorem SCL_t {s k : Int} {b : Nat → Int} {n : Nat} {e v e' v' : Int} {A C A1 C1 f f1 : Nat → Int} (h : SCL A C f) (hM : MW f) (x : TSA s k b n e v A C A1 C1) (y : TSR s k b n e' v' f f1) (ev : v' = v) (ee : e' = e) : SCL A1 C1 f1 := by
  subst ev; subst ee
  have hb : ∀ m, m < 8 → f (6 + m) ≤ 24 := fun m hm => (hM.1.2.2.2.2.2.1 m hm).2
  by_cases c : s = 0 ∧ (0 ≤ k ∧ k ≤ 7) ∧ e' = 0
  · obtain ⟨x1, x2, x3, x4, x5⟩ := x.1 c
    obtain ⟨y1, y2, y3⟩ := y.1 c
    have hk := c.2.1
    intro m hm
    by_cases em : m = k.toNat
    · subst em
      refine ⟨by rw [x1, y1], fun i hi => ?_⟩
      rw [y1] at hi
      exact AE_R (x5 i hi) (y3 i hi)
    · have z := h m hm
      have e0 : f1 (6 + m) = f (6 + m) := y2 _ (by omega) (by omega) (by omega)
      refine ⟨by rw [x3 m em, z.1, e0], fun i hi => ?_⟩
      rw [e0] at hi
      have hb' := hb m hm
      rw [x4 _ (by omega), y2 _ (by omega) (by omega) (by omega), y2 _ (by omega) (by omega) (by omega), y2 _ (by omega) (by omega) (by omega), y2 _ (by omega) (by omega) (by omega), y2 _ (by omega) (by omega) (by omega)]
      exact z.2 i hi
  · have x2 := x.2 c
    have y2 := y.2 c
    intro m hm
    have z := h m hm
    have hb' := hb m hm
    rw [(x2 m).2, y2 _ (by omega)]
    refine ⟨z.1, fun i hi => ?_⟩
    rw [(x2 _).1, y2 _ (by omega), y2 _ (by omega), y2 _ (by omega), y2 _ (by omega), y2 _ (by omega)]
    exact z.2 i hi
theorem SCL_k {A C A1 C1 f f1 : Nat → Int} (h : SCL A C f) (hM : MW f) (hA : ∀ j : Nat, j < 192 → A1 j = A j) (hC : ∀ j : Nat, j < 8 → C1 j = C j) (hf : ∀ j : Nat, 6 ≤ j → j < 974 → f1 j = f j) : SCL A1 C1 f1 := by
  have hb : ∀ m, m < 8 → f (6 + m) ≤ 24 := fun m hm => (hM.1.2.2.2.2.2.1 m hm).2
  intro m hm
  have z := h m hm
  have hb' := hb m hm
  rw [hC m hm, hf _ (by omega) (by omega)]
  refine ⟨z.1, fun i hi => ?_⟩
  rw [hA _ (by omega), hf _ (by omega) (by omega), hf _ (by omega) (by omega), hf _ (by omega) (by omega), hf _ (by omega) (by omega), hf _ (by omega) (by omega)]
  exact z.2 i hi
theorem SCL_0 {A C f : Nat → Int} (hC : ∀ j : Nat, j < 8 → C j = 0) (hf : ∀ j : Nat, 6 ≤ j → j < 14 → f j = 0) : SCL A C f := by
  intro m hm
  rw [hC m hm, hf _ (by omega) (by omega)]
  exact ⟨rfl, fun i hi => by omega⟩
theorem cp_ne {D : Nat → Nat → Int} {r0 r1 a b n k j : Nat} (h : ¬ k = r1) : am_cp D r0 r1 a b n k j = D k j := by
  unfold am_cp; rw [if_neg (fun z => h z.1)]
