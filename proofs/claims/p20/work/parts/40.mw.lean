/-! the reference's one array: what its rows hold -/
def efs (s v t : Int) : Option Int := if 0 ≤ s ∧ s ≤ 6 then some (t + 1) else if s = 10 then (if 1 ≤ t ∧ 1 ≤ v ∧ v ≤ 9999 then some t else none) else if s = 14 then (if 1 ≤ t then some t else none) else if 7 ≤ s ∧ s ≤ 16 then (if 2 ≤ t then some (t - 1) else none) else none
/-- how high the pile stands behind so many steps from one on -/
def ef (g : Nat → Int) : Nat → Nat → Int → Option Int
  | 0, _, t => some t
  | n + 1, i, t => (efs (g (2 * i)) (g (2 * i + 1)) t).bind (ef g n (i + 1))
def Seg (g : Nat → Int) (a b : Nat) : Prop := a ≤ b ∧ ∀ t, 0 ≤ t → ef g (b - a) a t = some (t + 1)
def SG (f : Nat → Int) (k : Nat) : Nat → Int := fun j => f (1240 + 1020 * k + j)
def LOK (f : Nat → Int) (k i : Nat) : Prop := (0 ≤ f (1042 + (16 * k + i)) ∧ f (1042 + (16 * k + i)) ≤ f (1106 + (16 * k + i)) ∧ f (1106 + (16 * k + i)) ≤ f (1170 + (16 * k + i)) ∧ f (1170 + (16 * k + i)) ≤ 510) ∧ Seg (SG f k) (f (1042 + (16 * k + i))).toNat (f (1106 + (16 * k + i))).toNat ∧ (f (1106 + (16 * k + i)) < f (1170 + (16 * k + i)) → Seg (SG f k) (f (1106 + (16 * k + i))).toNat (f (1170 + (16 * k + i))).toNat)
def MWs (f : Nat → Int) : Prop := (0 ≤ f 1 ∧ f 1 ≤ 12) ∧ (0 ≤ f 2 ∧ f 2 ≤ 40) ∧ (0 ≤ f 3 ∧ f 3 ≤ 300) ∧ (0 ≤ f 4 ∧ f 4 ≤ 40) ∧ (0 ≤ f 5 ∧ f 5 ≤ 20) ∧ (∀ k, k < 8 → 0 ≤ f (6 + k) ∧ f (6 + k) ≤ 24) ∧ (∀ k, k < 4 → 0 ≤ f (974 + k) ∧ f (974 + k) ≤ 16)
def aOK (a x t b v : Int) : Prop := (0 ≤ a ∧ a ≤ 8) ∧ (0 ≤ x ∧ x ≤ 3) ∧ (a = 8 → x ≤ 1) ∧ ((a = 2 ∨ a = 3 ∨ a = 4) → 0 ≤ t ∧ t ≤ 2) ∧ ((a = 2 ∨ a = 3 ∨ a = 4 ∨ a = 5) → 0 ≤ b ∧ b ≤ 3) ∧ (a = 4 → 0 ≤ v ∧ v ≤ 3) ∧ (a = 6 → 0 ≤ b ∧ b ≤ 1)
def MWa (f : Nat → Int) : Prop := ∀ m, m < 192 → aOK (f (14 + 5 * m)) (f (14 + 5 * m + 1)) (f (14 + 5 * m + 2)) (f (14 + 5 * m + 3)) (f (14 + 5 * m + 4))
def MWl (f : Nat → Int) : Prop := ∀ k, k < 4 → ∀ i : Nat, i < 16 → (i : Int) < f (974 + k) → LOK f k i
def qOK (s k x t v : Int) : Prop := (0 ≤ s ∧ s ≤ 7) ∧ (0 ≤ k ∧ k ≤ 1) ∧ (0 ≤ x ∧ x ≤ 3) ∧ (0 ≤ t ∧ t ≤ 2) ∧ (k = 0 → -1 ≤ v ∧ v ≤ 3) ∧ (k = 1 → x ≤ 1)
def MWq (f : Nat → Int) : Prop := ∀ q, q < 12 → qOK (f (5320 + 5 * q)) (f (5320 + 5 * q + 1)) (f (5320 + 5 * q + 2)) (f (5320 + 5 * q + 3)) (f (5320 + 5 * q + 4))
def cOK (l m w s : Int) : Prop := (0 ≤ l ∧ l ≤ 3) ∧ (0 ≤ m ∧ m ≤ 120) ∧ (0 ≤ w ∧ w ≤ 9) ∧ (0 ≤ s ∧ s ≤ 1)
def MWc (f : Nat → Int) : Prop := ∀ c, c < 40 → cOK (f (5380 + 4 * c)) (f (5380 + 4 * c + 1)) (f (5380 + 4 * c + 2)) (f (5380 + 4 * c + 3))
def nOK (c q h : Int) : Prop := (0 ≤ c ∧ c ≤ 39) ∧ (0 ≤ q ∧ q ≤ 11) ∧ (0 ≤ h ∧ h ≤ 3)
def MWn (f : Nat → Int) : Prop := ∀ i, i < 300 → nOK (f (5540 + 6 * i)) (f (5540 + 6 * i + 1)) (f (5540 + 6 * i + 2))
def MWe (f : Nat → Int) : Prop := ∀ i, i < 40 → (0 ≤ f (7340 + 2 * i) ∧ f (7340 + 2 * i) ≤ 9999) ∧ (0 ≤ f (7340 + 2 * i + 1) ∧ f (7340 + 2 * i + 1) ≤ 9999)
def MWh (f : Nat → Int) : Prop := ∀ i : Nat, i < 20 → (i : Int) < f 5 → (1 ≤ f (7420 + 2 * i) ∧ f (7420 + 2 * i) ≤ 999) ∧ (0 ≤ f (7420 + 2 * i + 1) ∧ f (7420 + 2 * i + 1) ≤ 999)
def MW (f : Nat → Int) : Prop := MWs f ∧ MWa f ∧ MWl f ∧ MWq f ∧ MWc f ∧ MWn f ∧ MWe f ∧ MWh f
theorem MW_fr {S : List Nat} {d0 d1 : Nat → Nat → Int} (h : MW (d0 80)) (hF : Fr S d0 d1) (hs : 80 ∉ S) : MW (d1 80) := by
  have e : d1 80 = d0 80 := funext (hF 80 hs)
  rw [e]; exact h
theorem MW_n {f : Nat → Int} (h : MW f) : (0 ≤ f 1 ∧ f 1 ≤ 12) ∧ (0 ≤ f 2 ∧ f 2 ≤ 40) ∧ (0 ≤ f 3 ∧ f 3 ≤ 300) ∧ (0 ≤ f 4 ∧ f 4 ≤ 40) ∧ (0 ≤ f 5 ∧ f 5 ≤ 20) := ⟨h.1.1, h.1.2.1, h.1.2.2.1, h.1.2.2.2.1, h.1.2.2.2.2.1⟩
theorem MW_am {f : Nat → Int} (h : MW f) (k : Int) (hk : 0 ≤ k ∧ k ≤ 7) : 0 ≤ f (6 + k).toNat ∧ f (6 + k).toNat ≤ 24 := by
  rw [show (6 + k).toNat = 6 + k.toNat by omega]
  exact h.1.2.2.2.2.2.1 _ (by omega)
theorem MW_lm {f : Nat → Int} (h : MW f) (k : Int) (hk : 0 ≤ k ∧ k ≤ 3) : 0 ≤ f (974 + k).toNat ∧ f (974 + k).toNat ≤ 16 := by
  rw [show (974 + k).toNat = 974 + k.toNat by omega]
  exact h.1.2.2.2.2.2.2 _ (by omega)
theorem MW_a {f : Nat → Int} (h : MW f) (m : Int) (hm : 0 ≤ m ∧ m ≤ 191) : (0 ≤ f (14 + (5 * m)).toNat ∧ f (14 + (5 * m)).toNat ≤ 8) ∧ (0 ≤ f ((14 + (5 * m)) + 1).toNat ∧ f ((14 + (5 * m)) + 1).toNat ≤ 3) ∧ (f (14 + (5 * m)).toNat = 8 → f ((14 + (5 * m)) + 1).toNat ≤ 1) ∧ ((f (14 + (5 * m)).toNat = 2 ∨ f (14 + (5 * m)).toNat = 3 ∨ f (14 + (5 * m)).toNat = 4) → 0 ≤ f ((14 + (5 * m)) + 2).toNat ∧ f ((14 + (5 * m)) + 2).toNat ≤ 2) ∧ ((f (14 + (5 * m)).toNat = 2 ∨ f (14 + (5 * m)).toNat = 3 ∨ f (14 + (5 * m)).toNat = 4 ∨ f (14 + (5 * m)).toNat = 5) → 0 ≤ f ((14 + (5 * m)) + 3).toNat ∧ f ((14 + (5 * m)) + 3).toNat ≤ 3) ∧ (f (14 + (5 * m)).toNat = 4 → 0 ≤ f ((14 + (5 * m)) + 4).toNat ∧ f ((14 + (5 * m)) + 4).toNat ≤ 3) ∧ (f (14 + (5 * m)).toNat = 6 → 0 ≤ f ((14 + (5 * m)) + 3).toNat ∧ f ((14 + (5 * m)) + 3).toNat ≤ 1) := by
  have := h.2.1 m.toNat (by omega)
  rw [show (14 + (5 * m)).toNat = 14 + 5 * m.toNat by omega, show ((14 + (5 * m)) + 1).toNat = 14 + 5 * m.toNat + 1 by omega, show ((14 + (5 * m)) + 2).toNat = 14 + 5 * m.toNat + 2 by omega, show ((14 + (5 * m)) + 3).toNat = 14 + 5 * m.toNat + 3 by omega, show ((14 + (5 * m)) + 4).toNat = 14 + 5 * m.toNat + 4 by omega]
  exact this
theorem MW_q {f : Nat → Int} (h : MW f) (q : Int) (hq : 0 ≤ q ∧ q ≤ 11) : (0 ≤ f ((5320 + (5 * q)) + 0).toNat ∧ f ((5320 + (5 * q)) + 0).toNat ≤ 7) ∧ (0 ≤ f ((5320 + (5 * q)) + 1).toNat ∧ f ((5320 + (5 * q)) + 1).toNat ≤ 1) ∧ (0 ≤ f ((5320 + (5 * q)) + 2).toNat ∧ f ((5320 + (5 * q)) + 2).toNat ≤ 3) ∧ (0 ≤ f ((5320 + (5 * q)) + 3).toNat ∧ f ((5320 + (5 * q)) + 3).toNat ≤ 2) ∧ (f ((5320 + (5 * q)) + 1).toNat = 0 → -1 ≤ f ((5320 + (5 * q)) + 4).toNat ∧ f ((5320 + (5 * q)) + 4).toNat ≤ 3) ∧ (f ((5320 + (5 * q)) + 1).toNat = 1 → f ((5320 + (5 * q)) + 2).toNat ≤ 1) := by
  have := h.2.2.2.1 q.toNat (by omega)
  rw [show ((5320 + (5 * q)) + 0).toNat = 5320 + 5 * q.toNat by omega, show ((5320 + (5 * q)) + 1).toNat = 5320 + 5 * q.toNat + 1 by omega, show ((5320 + (5 * q)) + 2).toNat = 5320 + 5 * q.toNat + 2 by omega, show ((5320 + (5 * q)) + 3).toNat = 5320 + 5 * q.toNat + 3 by omega, show ((5320 + (5 * q)) + 4).toNat = 5320 + 5 * q.toNat + 4 by omega]
  exact this
theorem MW_c {f : Nat → Int} (h : MW f) (q : Int) (hq : 0 ≤ q ∧ q ≤ 39) : (0 ≤ f ((5380 + (4 * q)) + 0).toNat ∧ f ((5380 + (4 * q)) + 0).toNat ≤ 3) ∧ (0 ≤ f ((5380 + (4 * q)) + 1).toNat ∧ f ((5380 + (4 * q)) + 1).toNat ≤ 120) ∧ (0 ≤ f ((5380 + (4 * q)) + 2).toNat ∧ f ((5380 + (4 * q)) + 2).toNat ≤ 9) ∧ (0 ≤ f ((5380 + (4 * q)) + 3).toNat ∧ f ((5380 + (4 * q)) + 3).toNat ≤ 1) := by
  have := h.2.2.2.2.1 q.toNat (by omega)
  rw [show ((5380 + (4 * q)) + 0).toNat = 5380 + 4 * q.toNat by omega, show ((5380 + (4 * q)) + 1).toNat = 5380 + 4 * q.toNat + 1 by omega, show ((5380 + (4 * q)) + 2).toNat = 5380 + 4 * q.toNat + 2 by omega, show ((5380 + (4 * q)) + 3).toNat = 5380 + 4 * q.toNat + 3 by omega]
  exact this
theorem MW_i {f : Nat → Int} (h : MW f) (q : Int) (hq : 0 ≤ q ∧ q ≤ 299) : (0 ≤ f ((5540 + (6 * q)) + 0).toNat ∧ f ((5540 + (6 * q)) + 0).toNat ≤ 39) ∧ (0 ≤ f ((5540 + (6 * q)) + 1).toNat ∧ f ((5540 + (6 * q)) + 1).toNat ≤ 11) ∧ (0 ≤ f ((5540 + (6 * q)) + 2).toNat ∧ f ((5540 + (6 * q)) + 2).toNat ≤ 3) := by
  have := h.2.2.2.2.2.1 q.toNat (by omega)
  rw [show ((5540 + (6 * q)) + 0).toNat = 5540 + 6 * q.toNat by omega, show ((5540 + (6 * q)) + 1).toNat = 5540 + 6 * q.toNat + 1 by omega, show ((5540 + (6 * q)) + 2).toNat = 5540 + 6 * q.toNat + 2 by omega]
  exact this
theorem MW_e {f : Nat → Int} (h : MW f) (q : Int) (hq : 0 ≤ q ∧ q ≤ 39) : (0 ≤ f (7340 + (2 * q)).toNat ∧ f (7340 + (2 * q)).toNat ≤ 9999) ∧ (0 ≤ f ((7340 + (2 * q)) + 1).toNat ∧ f ((7340 + (2 * q)) + 1).toNat ≤ 9999) := by
  have := h.2.2.2.2.2.2.1 q.toNat (by omega)
  rw [show (7340 + (2 * q)).toNat = 7340 + 2 * q.toNat by omega, show ((7340 + (2 * q)) + 1).toNat = 7340 + 2 * q.toNat + 1 by omega]
  exact this
theorem MW_h {f : Nat → Int} (h : MW f) (q : Int) (hq : 0 ≤ q ∧ q < f 5) : (1 ≤ f (7420 + (2 * q)).toNat ∧ f (7420 + (2 * q)).toNat ≤ 999) ∧ (0 ≤ f ((7420 + (2 * q)) + 1).toNat ∧ f ((7420 + (2 * q)) + 1).toNat ≤ 999) := by
  have h5 := h.1.2.2.2.2.1
  have := h.2.2.2.2.2.2.2 q.toNat (by omega) (by omega)
  rw [show (7420 + (2 * q)).toNat = 7420 + 2 * q.toNat by omega, show ((7420 + (2 * q)) + 1).toNat = 7420 + 2 * q.toNat + 1 by omega]
  exact this
theorem MW_l {f : Nat → Int} (h : MW f) (l i : Int) (hl : 0 ≤ l ∧ l ≤ 3) (hi : 0 ≤ i ∧ i < f (974 + l).toNat) : (0 ≤ f (1042 + ((16 * l) + i)).toNat ∧ f (1042 + ((16 * l) + i)).toNat ≤ f (1106 + ((16 * l) + i)).toNat ∧ f (1106 + ((16 * l) + i)).toNat ≤ f (1170 + ((16 * l) + i)).toNat ∧ f (1170 + ((16 * l) + i)).toNat ≤ 510) := by
  have hm := MW_lm h l hl
  have := (h.2.2.1 l.toNat (by omega) i.toNat (by omega) (by rw [show 974 + l.toNat = (974 + l).toNat by omega]; omega)).1
  rw [show (1042 + ((16 * l) + i)).toNat = 1042 + (16 * l.toNat + i.toNat) by omega, show (1106 + ((16 * l) + i)).toNat = 1106 + (16 * l.toNat + i.toNat) by omega, show (1170 + ((16 * l) + i)).toNat = 1170 + (16 * l.toNat + i.toNat) by omega]
  exact this
/-- a law's line: its amount's steps, and its guard's -/
theorem MW_s1 {f : Nat → Int} (h : MW f) (l i : Int) (hl : 0 ≤ l ∧ l ≤ 3) (hi : 0 ≤ i ∧ i < f (974 + l).toNat) : Seg (SG f l.toNat) (f (1042 + ((16 * l) + i)).toNat).toNat (f (1106 + ((16 * l) + i)).toNat).toNat := by
  have hm := MW_lm h l hl
  have := (h.2.2.1 l.toNat (by omega) i.toNat (by omega) (by rw [show 974 + l.toNat = (974 + l).toNat by omega]; omega)).2.1
  rw [show (1042 + ((16 * l) + i)).toNat = 1042 + (16 * l.toNat + i.toNat) by omega, show (1106 + ((16 * l) + i)).toNat = 1106 + (16 * l.toNat + i.toNat) by omega]
  exact this
theorem MW_s2 {f : Nat → Int} (h : MW f) (l i : Int) (hl : 0 ≤ l ∧ l ≤ 3) (hi : 0 ≤ i ∧ i < f (974 + l).toNat) (hg : f (1106 + ((16 * l) + i)).toNat < f (1170 + ((16 * l) + i)).toNat) : Seg (SG f l.toNat) (f (1106 + ((16 * l) + i)).toNat).toNat (f (1170 + ((16 * l) + i)).toNat).toNat := by
  have hm := MW_lm h l hl
  have := (h.2.2.1 l.toNat (by omega) i.toNat (by omega) (by rw [show 974 + l.toNat = (974 + l).toNat by omega]; omega)).2.2
  rw [show (1106 + ((16 * l) + i)).toNat = 1106 + (16 * l.toNat + i.toNat) by omega, show (1170 + ((16 * l) + i)).toNat = 1170 + (16 * l.toNat + i.toNat) by omega] at hg ⊢
  exact this hg
/-- one step, where the rest ends with one on the pile -/
theorem ef_step {g : Nat → Int} {n i : Nat} {t z : Int} (h : ef g (n + 1) i t = some z) : ((0 ≤ g (2 * i) ∧ g (2 * i) ≤ 6) ∧ ef g n (i + 1) (t + 1) = some z) ∨ (g (2 * i) = 10 ∧ 1 ≤ t ∧ (1 ≤ g (2 * i + 1) ∧ g (2 * i + 1) ≤ 9999) ∧ ef g n (i + 1) t = some z) ∨ (g (2 * i) = 14 ∧ 1 ≤ t ∧ ef g n (i + 1) t = some z) ∨ ((7 ≤ g (2 * i) ∧ g (2 * i) ≤ 16 ∧ g (2 * i) ≠ 10 ∧ g (2 * i) ≠ 14) ∧ 2 ≤ t ∧ ef g n (i + 1) (t - 1) = some z) := by
  unfold ef efs at h
  split at h
  · rename_i h1
    exact .inl ⟨h1, h⟩
  · split at h
    · rename_i h2
      split at h
      · rename_i h3
        exact .inr (.inl ⟨h2, h3.1, h3.2, h⟩)
      · cases h
    · split at h
      · rename_i h2 h3
        split at h
        · rename_i h4
          exact .inr (.inr (.inl ⟨h3, h4, h⟩))
        · cases h
      · split at h
        · rename_i h2 h3 h4
          split at h
          · rename_i h5
            exact .inr (.inr (.inr ⟨⟨h4.1, h4.2, h2, h3⟩, h5, h⟩))
          · cases h
        · cases h
theorem s_ev {X : am_X} {i : Instr} {tg : List Nat} {cv : Int} {L L' : am_L} {st rest : List AV} {w w' : am_W} {a v : Int} (h : am_smp X i tg cv L st w = some (L', .inl a :: rest, w')) (he : a = v) : am_smp X i tg cv L st w = some (L', .inl v :: rest, w') := by rw [h, he]
theorem sq_R {r : Int} (h : 0 ≤ r ∧ r ≤ 32) : (0 ≤ (r + 1) * (r + 1) ∧ (r + 1) * (r + 1) ≤ 1089) ∧ ((r + 1) * (r + 1) ≤ 1000 → r ≤ 30) ∧ (r = 0 → (r + 1) * (r + 1) = 1) := by
  have : ∀ j : Fin 33, (0 ≤ ((j.val : Int) + 1) * ((j.val : Int) + 1) ∧ ((j.val : Int) + 1) * ((j.val : Int) + 1) ≤ 1089) ∧ (((j.val : Int) + 1) * ((j.val : Int) + 1) ≤ 1000 → (j.val : Int) ≤ 30) ∧ ((j.val : Int) = 0 → ((j.val : Int) + 1) * ((j.val : Int) + 1) = 1) := by decide +kernel
  have e : ((r.toNat : Nat) : Int) = r := Int.toNat_of_nonneg h.1
  have := this ⟨r.toNat, by omega⟩
  rw [e] at this
  exact this
