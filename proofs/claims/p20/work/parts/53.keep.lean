/-! the reference's array, where a text is kept -/
def ARW (g : Nat → Int) (n : Int) : Prop := ∀ i : Nat, (i : Int) < n → aOK (g (5 * i)) (g (5 * i + 1)) (g (5 * i + 2)) (g (5 * i + 3)) (g (5 * i + 4))
theorem ARW_0 {g : Nat → Int} {n : Int} (h : n ≤ 0) : ARW g n := fun i hi => by omega
theorem ARW_s {g g' : Nat → Int} {n n' : Int} (h : ARW g n) (hn : 0 ≤ n) (hb : ∀ j : Nat, (j : Int) < 5 * n → g' j = g j) (hr : aOK (g' (5 * n).toNat) (g' ((5 * n) + 1).toNat) (g' ((5 * n) + 2).toNat) (g' ((5 * n) + 3).toNat) (g' ((5 * n) + 4).toNat)) (e : n' = n + 1) : ARW g' n' := by
  subst e
  intro i hi
  by_cases c : (i : Int) < n
  · rw [hb _ (by omega), hb _ (by omega), hb _ (by omega), hb _ (by omega), hb _ (by omega)]; exact h i c
  · rw [show (5 * n).toNat = 5 * i by omega, show ((5 * n) + 1).toNat = 5 * i + 1 by omega, show ((5 * n) + 2).toNat = 5 * i + 2 by omega, show ((5 * n) + 3).toNat = 5 * i + 3 by omega, show ((5 * n) + 4).toNat = 5 * i + 4 by omega] at hr
    exact hr
def LR (a b c s : Int) (h : Nat → Int) : Prop := (0 ≤ a ∧ a ≤ b ∧ b ≤ c ∧ c ≤ s) ∧ PS h a b ∧ (b < c → PS h b c)
def LRW (g h : Nat → Int) (n s : Int) : Prop := ∀ i : Nat, (i : Int) < n → LR (g (4 * i + 1)) (g (4 * i + 2)) (g (4 * i + 3)) s h
theorem LRW_0 {g h : Nat → Int} {n s : Int} (z : n ≤ 0) : LRW g h n s := fun i hi => by omega
theorem LR_mono {a b c s s' : Int} {h h' : Nat → Int} (x : LR a b c s h) (e : AGR h' h s) (hs : s ≤ s') : LR a b c s' h' :=
  ⟨⟨x.1.1, x.1.2.1, x.1.2.2.1, by have := x.1.2.2.2; omega⟩, PS_mono x.2.1 (fun j hj => e j (by have := x.1; omega)), fun z => PS_mono (x.2.2 z) (fun j hj => e j (by have := x.1; omega))⟩
theorem LRW_s {g g' h h' : Nat → Int} {n n' s s' : Int} (x : LRW g h n s) (hn : 0 ≤ n) (hb : ∀ j : Nat, (j : Int) < 4 * n → g' j = g j) (hr : LR (g' ((4 * n) + 1).toNat) (g' ((4 * n) + 2).toNat) (g' ((4 * n) + 3).toNat) s' h') (ha : AGR h' h s) (hs : s ≤ s') (e : n' = n + 1) : LRW g' h' n' s' := by
  subst e
  intro i hi
  by_cases c : (i : Int) < n
  · rw [hb _ (by omega), hb _ (by omega), hb _ (by omega)]; exact LR_mono (x i c) ha hs
  · rw [show ((4 * n) + 1).toNat = 4 * i + 1 by omega, show ((4 * n) + 2).toNat = 4 * i + 2 by omega, show ((4 * n) + 3).toNat = 4 * i + 3 by omega] at hr
    exact hr
theorem PS_fin {g g' : Nat → Int} {a b a' b' : Int} (h : PS g a b) (e : AGR g' g b) (ha : a' = a) (hb : b' = b) : PS g' a' b' := by
  subst ha; subst hb; exact PS_mono h e
def K0 (f g : Nat → Int) (k n i : Int) (j : Nat) : Int := if j = (6 + k).toNat then n else if 14 + 120 * k.toNat ≤ j ∧ (j : Int) < 14 + 120 * k + i then g (j - (14 + 120 * k.toNat)) else f j
theorem K0_0 {D : Nat → Nat → Int} {g : Nat → Int} {k n : Int} (hk : 0 ≤ k ∧ k ≤ 7) : ∀ j : Nat, u2 D 80 (6 + k).toNat n 80 j = K0 (D 80) g k n 0 j := by
  intro j
  unfold K0
  by_cases e : j = (6 + k).toNat
  · rw [if_pos e, e, u2_eq]
  · rw [if_neg e, if_neg (by omega), u2_ne (by omega)]
theorem K0_s {D : Nat → Nat → Int} {f g : Nat → Int} {k n i x : Int} (h : ∀ j : Nat, D 80 j = K0 f g k n i j) (hk : 0 ≤ k ∧ k ≤ 7) (hi : 0 ≤ i) (hx : x = g i.toNat) : ∀ j : Nat, u2 D 80 ((14 + (120 * k)) + i).toNat x 80 j = K0 f g k n (i + 1) j := by
  intro j
  by_cases e : j = ((14 + (120 * k)) + i).toNat
  · rw [e, u2_eq]
    unfold K0
    rw [if_neg (by omega), if_pos (by omega), hx]
    congr 1; omega
  · rw [u2_ne (by omega), h j]
    unfold K0
    by_cases c : j = (6 + k).toNat
    · rw [if_pos c, if_pos c]
    · rw [if_neg c, if_neg c]
      by_cases c2 : 14 + 120 * k.toNat ≤ j ∧ (j : Int) < 14 + 120 * k + i
      · rw [if_pos c2, if_pos (by omega)]
      · rw [if_neg c2, if_neg (by omega)]
theorem MW_K0 {f f' g : Nat → Int} {k n i : Int} (hM : MW f) (h : ∀ j : Nat, f' j = K0 f g k n i j) (hk : 0 ≤ k ∧ k ≤ 7) (hn : 0 ≤ n ∧ n ≤ 24) (hA : ARW g n) (hi : i = 5 * n) : MW f' := by
  subst hi
  obtain ⟨⟨g1, g2, g3, g4, g5, g6, g7⟩, ha, hl, hq, hc, hn', he, hh⟩ := hM
  have o : ∀ j : Nat, ¬ j = (6 + k).toNat → ¬ (14 + 120 * k.toNat ≤ j ∧ (j : Int) < 14 + 120 * k + 5 * n) → f' j = f j := fun j h1 h2 => by
    rw [h j]; unfold K0; rw [if_neg h1, if_neg h2]
  have r : ∀ j : Nat, 14 + 120 * k.toNat ≤ j → (j : Int) < 14 + 120 * k + 5 * n → f' j = g (j - (14 + 120 * k.toNat)) := fun j h1 h2 => by
    rw [h j]; unfold K0; rw [if_neg (by omega), if_pos ⟨h1, h2⟩]
  refine ⟨⟨by rw [o 1 (by omega) (by omega)]; exact g1, by rw [o 2 (by omega) (by omega)]; exact g2, by rw [o 3 (by omega) (by omega)]; exact g3, by rw [o 4 (by omega) (by omega)]; exact g4, by rw [o 5 (by omega) (by omega)]; exact g5, ?_, fun q hq' => by rw [o _ (by omega) (by omega)]; exact g7 q hq'⟩, ?_, MWl_con hl (fun j _ _ => o j (by omega) (by omega)), MWq_con hq (fun j _ _ => o j (by omega) (by omega)), MWc_con hc (fun j _ _ => o j (by omega) (by omega)), MWn_con hn' (fun j _ _ => o j (by omega) (by omega)), MWe_con he (fun j _ _ => o j (by omega) (by omega)), MWh_con hh (fun j _ _ => o j (by omega) (by omega)) (o 5 (by omega) (by omega))⟩
  · intro q hq'
    by_cases c : 6 + q = (6 + k).toNat
    · rw [h (6 + q)]; unfold K0; rw [if_pos c]; exact hn
    · rw [o _ c (by omega)]; exact g6 q hq'
  · intro m hm
    by_cases c : 24 * k.toNat ≤ m ∧ (m : Int) < 24 * k + n
    · have := hA (m - 24 * k.toNat) (by omega)
      rw [r _ (by omega) (by omega), r _ (by omega) (by omega), r _ (by omega) (by omega), r _ (by omega) (by omega), r _ (by omega) (by omega), show 14 + 5 * m - (14 + 120 * k.toNat) = 5 * (m - 24 * k.toNat) by omega, show 14 + 5 * m + 1 - (14 + 120 * k.toNat) = 5 * (m - 24 * k.toNat) + 1 by omega, show 14 + 5 * m + 2 - (14 + 120 * k.toNat) = 5 * (m - 24 * k.toNat) + 2 by omega, show 14 + 5 * m + 3 - (14 + 120 * k.toNat) = 5 * (m - 24 * k.toNat) + 3 by omega, show 14 + 5 * m + 4 - (14 + 120 * k.toNat) = 5 * (m - 24 * k.toNat) + 4 by omega]
      exact this
    · rw [o _ (by omega) (by omega), o _ (by omega) (by omega), o _ (by omega) (by omega), o _ (by omega) (by omega), o _ (by omega) (by omega)]
      exact ha m hm
def K1 (f g : Nat → Int) (k n i : Int) (j : Nat) : Int := if j = (974 + k).toNat then n
  else if 978 + 16 * k.toNat ≤ j ∧ (j : Int) < 978 + 16 * k + i then g (4 * (j - (978 + 16 * k.toNat)))
  else if 1042 + 16 * k.toNat ≤ j ∧ (j : Int) < 1042 + 16 * k + i then g (4 * (j - (1042 + 16 * k.toNat)) + 1)
  else if 1106 + 16 * k.toNat ≤ j ∧ (j : Int) < 1106 + 16 * k + i then g (4 * (j - (1106 + 16 * k.toNat)) + 2)
  else if 1170 + 16 * k.toNat ≤ j ∧ (j : Int) < 1170 + 16 * k + i then g (4 * (j - (1170 + 16 * k.toNat)) + 3)
  else f j
theorem K1_0 {D : Nat → Nat → Int} {g : Nat → Int} {k n : Int} (hk : 0 ≤ k ∧ k ≤ 3) : ∀ j : Nat, u2 D 80 (974 + k).toNat n 80 j = K1 (D 80) g k n 0 j := by
  intro j
  unfold K1
  by_cases e : j = (974 + k).toNat
  · rw [if_pos e, e, u2_eq]
  · rw [if_neg e, if_neg (by omega), if_neg (by omega), if_neg (by omega), if_neg (by omega), u2_ne (by omega)]
theorem K1_s {D : Nat → Nat → Int} {f g : Nat → Int} {k n i x0 x1 x2 x3 : Int} (h : ∀ j : Nat, D 80 j = K1 f g k n i j) (hk : 0 ≤ k ∧ k ≤ 3) (hi : 0 ≤ i ∧ i ≤ 15) (h0 : x0 = g (4 * i).toNat) (h1 : x1 = g ((4 * i) + 1).toNat) (h2 : x2 = g ((4 * i) + 2).toNat) (h3 : x3 = g ((4 * i) + 3).toNat) : ∀ j : Nat, u2 (u2 (u2 (u2 D 80 ((978 + (16 * k)) + i).toNat x0) 80 ((1042 + (16 * k)) + i).toNat x1) 80 ((1106 + (16 * k)) + i).toNat x2) 80 ((1170 + (16 * k)) + i).toNat x3 80 j = K1 f g k n (i + 1) j := by
  intro j
  by_cases e3 : j = ((1170 + (16 * k)) + i).toNat
  · rw [e3, u2_eq]
    unfold K1
    rw [if_neg (by omega), if_neg (by omega), if_neg (by omega), if_neg (by omega), if_pos (by omega), h3]
    congr 1; omega
  · rw [u2_ne (by omega)]
    by_cases e2 : j = ((1106 + (16 * k)) + i).toNat
    · rw [e2, u2_eq]
      unfold K1
      rw [if_neg (by omega), if_neg (by omega), if_neg (by omega), if_pos (by omega), h2]
      congr 1; omega
    · rw [u2_ne (by omega)]
      by_cases e1 : j = ((1042 + (16 * k)) + i).toNat
      · rw [e1, u2_eq]
        unfold K1
        rw [if_neg (by omega), if_neg (by omega), if_pos (by omega), h1]
        congr 1; omega
      · rw [u2_ne (by omega)]
        by_cases e0 : j = ((978 + (16 * k)) + i).toNat
        · rw [e0, u2_eq]
          unfold K1
          rw [if_neg (by omega), if_pos (by omega), h0]
          congr 1; omega
        · rw [u2_ne (by omega), h j]
          unfold K1
          by_cases c : j = (974 + k).toNat
          · rw [if_pos c, if_pos c]
          · rw [if_neg c, if_neg c]
            by_cases c0 : 978 + 16 * k.toNat ≤ j ∧ (j : Int) < 978 + 16 * k + i
            · rw [if_pos c0, if_pos (by omega)]
            · rw [if_neg c0, if_neg (show ¬ (978 + 16 * k.toNat ≤ j ∧ (j : Int) < 978 + 16 * k + (i + 1)) by omega)]
              by_cases c1 : 1042 + 16 * k.toNat ≤ j ∧ (j : Int) < 1042 + 16 * k + i
              · rw [if_pos c1, if_pos (by omega)]
              · rw [if_neg c1, if_neg (show ¬ (1042 + 16 * k.toNat ≤ j ∧ (j : Int) < 1042 + 16 * k + (i + 1)) by omega)]
                by_cases c2 : 1106 + 16 * k.toNat ≤ j ∧ (j : Int) < 1106 + 16 * k + i
                · rw [if_pos c2, if_pos (by omega)]
                · rw [if_neg c2, if_neg (show ¬ (1106 + 16 * k.toNat ≤ j ∧ (j : Int) < 1106 + 16 * k + (i + 1)) by omega)]
                  by_cases c3 : 1170 + 16 * k.toNat ≤ j ∧ (j : Int) < 1170 + 16 * k + i
                  · rw [if_pos c3, if_pos (by omega)]
                  · rw [if_neg c3, if_neg (show ¬ (1170 + 16 * k.toNat ≤ j ∧ (j : Int) < 1170 + 16 * k + (i + 1)) by omega)]
def K2 (F h : Nat → Int) (k i : Int) (j : Nat) : Int := if 1240 + 1020 * k.toNat ≤ j ∧ (j : Int) < 1240 + 1020 * k + i then h (j - (1240 + 1020 * k.toNat)) else F j
theorem K2_0 {D F h : Nat → Int} {k : Int} (z : ∀ j : Nat, D j = F j) (hk : 0 ≤ k) : ∀ j : Nat, D j = K2 F h k 0 j := fun j => by
  unfold K2; rw [if_neg (by omega)]; exact z j
theorem K2_s {D : Nat → Nat → Int} {F h : Nat → Int} {k i x : Int} (z : ∀ j : Nat, D 80 j = K2 F h k i j) (hk : 0 ≤ k) (hi : 0 ≤ i) (hx : x = h i.toNat) : ∀ j : Nat, u2 D 80 ((1240 + (1020 * k)) + i).toNat x 80 j = K2 F h k (i + 1) j := by
  intro j
  by_cases e : j = ((1240 + (1020 * k)) + i).toNat
  · rw [e, u2_eq]
    unfold K2
    rw [if_pos (by omega), hx]
    congr 1; omega
  · rw [u2_ne (by omega), z j]
    unfold K2
    by_cases c : 1240 + 1020 * k.toNat ≤ j ∧ (j : Int) < 1240 + 1020 * k + i
    · rw [if_pos c, if_pos (by omega)]
    · rw [if_neg c, if_neg (by omega)]
theorem MW_K1 {f f' g h : Nat → Int} {k n s i m : Int} (hM : MW f) (z : ∀ j : Nat, f' j = K2 (K1 f g k n m) h k i j) (hk : 0 ≤ k ∧ k ≤ 3) (hn : 0 ≤ n ∧ n ≤ 16) (hs : 0 ≤ s ∧ s ≤ 510) (hA : LRW g h n s) (hm : m = n) (hi : i = 2 * s) : MW f' := by
  subst hi; subst hm
  obtain ⟨⟨g1, g2, g3, g4, g5, g6, g7⟩, ha, hl, hq, hc, hn', he, hh⟩ := hM
  have o : ∀ j : Nat, ¬ j = (974 + k).toNat → ¬ (978 ≤ j ∧ j < 5320) → f' j = f j := fun j h1 h2 => by
    rw [z j]; unfold K2 K1
    rw [if_neg (by omega), if_neg h1, if_neg (by omega), if_neg (by omega), if_neg (by omega), if_neg (by omega)]
  refine ⟨⟨by rw [o 1 (by omega) (by omega)]; exact g1, by rw [o 2 (by omega) (by omega)]; exact g2, by rw [o 3 (by omega) (by omega)]; exact g3, by rw [o 4 (by omega) (by omega)]; exact g4, by rw [o 5 (by omega) (by omega)]; exact g5, fun q hq' => by rw [o _ (by omega) (by omega)]; exact g6 q hq', ?_⟩, MWa_con ha (fun j _ _ => o j (by omega) (by omega)), ?_, MWq_con hq (fun j _ _ => o j (by omega) (by omega)), MWc_con hc (fun j _ _ => o j (by omega) (by omega)), MWn_con hn' (fun j _ _ => o j (by omega) (by omega)), MWe_con he (fun j _ _ => o j (by omega) (by omega)), MWh_con hh (fun j _ _ => o j (by omega) (by omega)) (o 5 (by omega) (by omega))⟩
  · intro q hq'
    by_cases c : 974 + q = (974 + k).toNat
    · rw [z (974 + q)]; unfold K2 K1; rw [if_neg (by omega), if_pos c]; exact hn
    · rw [o _ c (by omega)]; exact g7 q hq'
  · intro q hq' i hi hlt
    by_cases c : q = k.toNat
    · subst c
      have e0 : f' (974 + k.toNat) = m := by rw [z]; unfold K2 K1; rw [if_neg (by omega), if_pos (by omega)]
      rw [e0] at hlt
      have e1 : f' (1042 + (16 * k.toNat + i)) = g (4 * i + 1) := by
        rw [z]; unfold K2 K1; rw [if_neg (by omega), if_neg (by omega), if_neg (by omega), if_pos (by omega)]; congr 1; omega
      have e2 : f' (1106 + (16 * k.toNat + i)) = g (4 * i + 2) := by
        rw [z]; unfold K2 K1; rw [if_neg (by omega), if_neg (by omega), if_neg (by omega), if_neg (by omega), if_pos (by omega)]; congr 1; omega
      have e3 : f' (1170 + (16 * k.toNat + i)) = g (4 * i + 3) := by
        rw [z]; unfold K2 K1; rw [if_neg (by omega), if_neg (by omega), if_neg (by omega), if_neg (by omega), if_neg (by omega), if_pos (by omega)]; congr 1; omega
      have hg : ∀ j : Nat, (j : Int) < 2 * s → SG f' k.toNat j = h j := fun j hj => by
        unfold SG; rw [z]; unfold K2; rw [if_pos (by omega)]; congr 1; omega
      have x := hA i hlt
      unfold LOK
      rw [e1, e2, e3]
      refine ⟨⟨x.1.1, x.1.2.1, x.1.2.2.1, by have := x.1.2.2.2; omega⟩, Seg_con x.2.1.2.2 (fun j hj => hg j (by have := x.1; omega)), fun y => Seg_con (x.2.2 y).2.2 (fun j hj => hg j (by have := x.1; omega))⟩
    · have o2 : ∀ j : Nat, (∃ b, (b = 1042 ∨ b = 1106 ∨ b = 1170) ∧ j = b + (16 * q + i)) → f' j = f j := fun j hj => by
        obtain ⟨b, hb, rfl⟩ := hj
        rw [z]; unfold K2 K1
        rw [if_neg (by omega), if_neg (by omega), if_neg (by omega), if_neg (by omega), if_neg (by omega), if_neg (by omega)]
      have e0 : f' (974 + q) = f (974 + q) := by
        rw [z]; unfold K2 K1
        rw [if_neg (by omega), if_neg (by omega), if_neg (by omega), if_neg (by omega), if_neg (by omega), if_neg (by omega)]
      rw [e0] at hlt
      have x := hl q hq' i hi hlt
      unfold LOK at x ⊢
      rw [o2 _ ⟨1042, by omega, rfl⟩, o2 _ ⟨1106, by omega, rfl⟩, o2 _ ⟨1170, by omega, rfl⟩]
      have hg : ∀ j, j < 1020 → SG f' q j = SG f q j := fun j hj => by
        unfold SG; rw [z]; unfold K2 K1
        rw [if_neg (by omega), if_neg (by omega), if_neg (by omega), if_neg (by omega), if_neg (by omega), if_neg (by omega)]
      refine ⟨x.1, Seg_con x.2.1 (fun j hj => hg j (by omega)), fun y => Seg_con (x.2.2 y) (fun j hj => hg j (by omega))⟩
