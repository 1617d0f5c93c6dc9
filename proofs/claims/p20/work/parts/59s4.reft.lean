/-! the reference's TEXT, act by act, line by line -/
theorem FXa {K V : Nat → Int} {t i : Nat} {c : Int} {F : Int × Nat × Int} (hz : KZ K t) (ht : t ≤ 501) (hi : i ≤ t) (h : F = gX K V 0 600 i c) (hk : ¬ K i = 0) (hc : c ≤ 24) : ((gAF K V c i).1 = 0 → F = gX K V 0 600 (gAF K V c i).2 (c + 1)) ∧ (¬ (gAF K V c i).1 = 0 → F.1 = (gAF K V c i).1 ∧ F.2.1 = (gAF K V c i).2) := by
  rw [gX_u hz ht hi, if_neg hk, if_pos rfl] at h
  unfold gAF
  by_cases a : ¬ (1000 ≤ K i ∧ K i ≤ 1008)
  · rw [if_pos a] at h ⊢
    subst h
    exact ⟨fun z => (by cases z), fun _ => ⟨rfl, rfl⟩⟩
  · rw [if_neg a] at h ⊢
    by_cases b : c = 24
    · rw [if_pos (by omega)] at h
      rw [if_pos b]
      subst h
      exact ⟨fun z => (by cases z), fun _ => ⟨rfl, rfl⟩⟩
    · rw [if_neg (by omega)] at h
      rw [if_neg b]
      by_cases e : (gAct K V (K i - 1000) (i + 1)).1 = 0
      · rw [if_pos e] at h; exact ⟨fun _ => h, fun z => absurd e z⟩
      · rw [if_neg e] at h; subst h; exact ⟨fun z => absurd z e, fun _ => ⟨rfl, rfl⟩⟩
theorem FXl {K V : Nat → Int} {t i : Nat} {c : Int} {F : Int × Nat × Int} (hz : KZ K t) (ht : t ≤ 501) (hi : i ≤ t) (h : F = gX K V 1 600 i c) (hk : ¬ K i = 0) (hc : c ≤ 16) : ((gLF K V c i).1 = 0 → F = gX K V 1 600 (gLF K V c i).2 (c + 1)) ∧ (¬ (gLF K V c i).1 = 0 → F.1 = (gLF K V c i).1 ∧ F.2.1 = (gLF K V c i).2) := by
  rw [gX_u hz ht hi, if_neg hk, if_neg (by decide)] at h
  unfold gLF
  by_cases a : ¬ (K i = 1000 ∨ K i = 1001)
  · rw [if_pos a] at h ⊢
    subst h
    exact ⟨fun z => (by cases z), fun _ => ⟨rfl, rfl⟩⟩
  · rw [if_neg a] at h ⊢
    by_cases b : c = 16
    · rw [if_pos (by omega)] at h
      rw [if_pos b]
      subst h
      exact ⟨fun z => (by cases z), fun _ => ⟨rfl, rfl⟩⟩
    · rw [if_neg (by omega)] at h
      rw [if_neg b]
      by_cases e : (gLine K V i).1 = 0
      · rw [if_pos e] at h; exact ⟨fun _ => h, fun z => absurd e z⟩
      · rw [if_neg e] at h; subst h; exact ⟨fun z => absurd z e, fun _ => ⟨rfl, rfl⟩⟩
/-- so far: it goes on at token i, or has failed -/
def TRr (s : Int) (b : Nat → Int) (n t : Nat) (D : Nat → Nat → Int) (c g : Int) : Prop := (g = 1 ∧ ∃ i, i ≤ t ∧ CUR s b n D i ∧ FX s b n = gX (KF s b n) (VF b n) s 600 i c) ∨ (g = 0 ∧ ¬ (FX s b n).1 = 0 ∧ D 79 17 = (FX s b n).1 ∧ D 79 18 = SF b n (FX s b n).2.1)
theorem TRr_0 {s : Int} {b : Nat → Int} {n t : Nat} {D : Nat → Nat → Int} (h : CUP s b n D (RN pB b n 0)) : TRr s b n t D 0 1 := .inl ⟨rfl, 0, Nat.zero_le _, h, rfl⟩
theorem TRr_g {s c g : Int} {b : Nat → Int} {n t : Nat} {D : Nat → Nat → Int} (h : TRr s b n t D c g) (hg : g = 1) : ∃ i, i ≤ t ∧ CUR s b n D i ∧ FX s b n = gX (KF s b n) (VF b n) s 600 i c := by
  rcases h with ⟨_, y⟩ | ⟨y, _⟩
  · exact y
  · omega
theorem TRr_sm {s c g : Int} {b : Nat → Int} {n t : Nat} {D D1 : Nat → Nat → Int} (h : TRr s b n t D c g) (e3 : D1 79 13 = D 79 13) (e4 : D1 79 14 = D 79 14) (e5 : D1 79 15 = D 79 15) (e6 : D1 79 16 = D 79 16) (e7 : D1 79 17 = D 79 17) (e8 : D1 79 18 = D 79 18) : TRr s b n t D1 c g := by
  rcases h with ⟨a, i, h1, h2, h3⟩ | ⟨a, h1, h2, h3⟩
  · exact .inl ⟨a, i, h1, CUR_sm h2 e3 e4 e5 e6, h3⟩
  · exact .inr ⟨a, h1, by rw [e7]; exact h2, by rw [e8]; exact h3⟩
theorem TRr_s {s c v : Int} {b : Nat → Int} {n t i : Nat} {D2 : Nat → Nat → Int} {r : GR} (hx : RSX s b n i D2 v r) (hm : gM r i t) (hi : i ≤ t) (hf : (r.1 = 0 → FX s b n = gX (KF s b n) (VF b n) s 600 r.2 (c + 1)) ∧ (¬ r.1 = 0 → (FX s b n).1 = r.1 ∧ (FX s b n).2.1 = r.2)) : TRr s b n t D2 (if v = 0 then c else c + 1) v := by
  rcases hx with ⟨a, e, h⟩ | ⟨a, e, h1, h2⟩
  · subst e
    rw [if_neg (by decide)]
    exact .inl ⟨rfl, r.2, (hm a).2, h, hf.1 a⟩
  · subst e
    have z := hf.2 a
    exact .inr ⟨rfl, by rw [z.1]; exact a, by rw [z.1]; exact h1, by rw [z.2]; exact h2⟩
theorem gAF_M {K V : Nat → Int} {t i : Nat} {l : Int} (h : KZ K t) : gM (gAF K V l i) i t := by
  unfold gAF; split
  · exact fun z => by cases z
  · split
    · exact fun z => by cases z
    · exact gM_s (gAct_M h)
theorem gLF_M {K V : Nat → Int} {t i : Nat} {l : Int} (h : KZ K t) : gM (gLF K V l i) i t := by
  unfold gLF; split
  · exact fun z => by cases z
  · split
    · exact fun z => by cases z
    · exact gLine_M h
theorem TRr_e {s k c g v e p : Int} {b : Nat → Int} {n t : Nat} {D : Nat → Nat → Int} (h : TRr s b n t D c g) (hk : okT s k) (hz : KZ (KF s b n) t) (ht : t ≤ 501) (hd : g = 1 → D 79 14 = 0) (hs : s = 0 ∨ s = 1) (hv : v = if g = 0 then -1 else c) (he : e = if g = 0 then D 79 17 else 0) (hp : p = if g = 0 then D 79 18 else -1) : TRS s k b n v e p := by
  refine ⟨fun z => absurd hk z, fun _ => ?_⟩
  rcases h with ⟨a, i, h1, h2, h3⟩ | ⟨a, h1, h2, h3⟩
  · subst a
    have k0 : KF s b n i = 0 := by
      have r := CUR_R h2 hs
      have d := hd rfl
      omega
    rw [gX_u hz ht h1, if_pos k0] at h3
    rw [h3]
    rw [if_neg (by decide)] at hv he hp
    exact ⟨fun _ => ⟨hv, he, hp⟩, fun z => absurd rfl z⟩
  · subst a
    rw [if_pos rfl] at hv he hp
    exact ⟨fun z => absurd z h1, fun _ => ⟨hv, he.trans h2, hp.trans h3⟩⟩
theorem TP_ge {b : Nat → Int} {n : Nat} : ∀ i, i ≤ TP b n i ∨ TP b n i = n
  | 0 => .inl (Nat.zero_le _)
  | i + 1 => by
    show _ ≤ (if _ then _ else _) ∨ (if _ then _ else _) = n
    by_cases c : TP b n i < n
    · rw [if_pos c]
      have r := TE_R (b := b) c
      have r2 := RN_R (P := pB) (b := b) (n := n) _ (TE b n (TP b n i)) rfl r.2
      rcases TP_ge (b := b) (n := n) i with h | h
      · left; omega
      · omega
    · rw [if_neg c]; exact .inr rfl
theorem TP_n {b : Nat → Int} {n : Nat} : TP b n n = n := by
  have h := TP_le (b := b) (n := n) n
  rcases TP_ge (b := b) (n := n) n with h2 | h2 <;> omega
theorem TRr_x {s c c' g : Int} {b : Nat → Int} {n t : Nat} {D D1 : Nat → Nat → Int} (h : TRr s b n t D c g) (e3 : D1 79 13 = D 79 13) (e4 : D1 79 14 = D 79 14) (e5 : D1 79 15 = D 79 15) (e6 : D1 79 16 = D 79 16) (e7 : D1 79 17 = D 79 17) (e8 : D1 79 18 = D 79 18) (hc : g = 1 → c' = c) : TRr s b n t D1 c' g := by
  rcases h with ⟨a, i, h1, h2, h3⟩ | ⟨a, h1, h2, h3⟩
  · rw [hc a]; exact .inl ⟨a, i, h1, CUR_sm h2 e3 e4 e5 e6, h3⟩
  · exact .inr ⟨a, h1, by rw [e7]; exact h2, by rw [e8]; exact h3⟩
