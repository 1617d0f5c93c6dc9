/-! the reference's array, where a row comes -/
theorem ef_con {g g' : Nat → Int} : ∀ (n i : Nat) (t : Int), (∀ j, j < 2 * (i + n) → g' j = g j) → ef g' n i t = ef g n i t
  | 0, _, _, _ => rfl
  | n + 1, i, t, h => by
    unfold ef
    rw [h _ (by omega), h _ (by omega)]
    congr 1
    funext z
    exact ef_con n (i + 1) z (fun j hj => h j (by omega))
theorem Seg_con {g g' : Nat → Int} {a b : Nat} (s : Seg g a b) (h : ∀ j, j < 2 * b → g' j = g j) : Seg g' a b :=
  ⟨s.1, fun t ht => by rw [ef_con _ _ _ (fun j hj => h j (by have := s.1; omega))]; exact s.2 t ht⟩
theorem MWl_con {f f' : Nat → Int} (hl : MWl f) (h : ∀ j, 974 ≤ j → j < 5320 → f' j = f j) : MWl f' := by
  intro k hk i hi hlt
  rw [h _ (by omega) (by omega)] at hlt
  have g := hl k hk i hi hlt
  unfold LOK at g ⊢
  rw [h (1042 + (16 * k + i)) (by omega) (by omega), h (1106 + (16 * k + i)) (by omega) (by omega), h (1170 + (16 * k + i)) (by omega) (by omega)]
  have hg : ∀ j, j < 1020 → SG f' k j = SG f k j := fun j hj => h _ (by omega) (by omega)
  refine ⟨g.1, Seg_con g.2.1 (fun j hj => hg j (by omega)), fun z => Seg_con (g.2.2 z) (fun j hj => hg j (by omega))⟩
theorem MWa_con {f f' : Nat → Int} (hl : MWa f) (h : ∀ j, 14 ≤ j → j < 974 → f' j = f j) : MWa f' := fun m hm => by
  rw [h _ (by omega) (by omega), h _ (by omega) (by omega), h _ (by omega) (by omega), h _ (by omega) (by omega), h _ (by omega) (by omega)]; exact hl m hm
theorem MWq_con {f f' : Nat → Int} (hl : MWq f) (h : ∀ j, 5320 ≤ j → j < 5380 → f' j = f j) : MWq f' := fun m hm => by
  rw [h _ (by omega) (by omega), h _ (by omega) (by omega), h _ (by omega) (by omega), h _ (by omega) (by omega), h _ (by omega) (by omega)]; exact hl m hm
theorem MWc_con {f f' : Nat → Int} (hl : MWc f) (h : ∀ j, 5380 ≤ j → j < 5540 → f' j = f j) : MWc f' := fun m hm => by
  rw [h _ (by omega) (by omega), h _ (by omega) (by omega), h _ (by omega) (by omega), h _ (by omega) (by omega)]; exact hl m hm
theorem MWn_con {f f' : Nat → Int} (hl : MWn f) (h : ∀ j, 5540 ≤ j → j < 7340 → f' j = f j) : MWn f' := fun m hm => by
  rw [h _ (by omega) (by omega), h _ (by omega) (by omega), h _ (by omega) (by omega)]; exact hl m hm
theorem MWe_con {f f' : Nat → Int} (hl : MWe f) (h : ∀ j, 7340 ≤ j → j < 7420 → f' j = f j) : MWe f' := fun m hm => by
  rw [h _ (by omega) (by omega), h _ (by omega) (by omega)]; exact hl m hm
theorem MWh_con {f f' : Nat → Int} (hl : MWh f) (h : ∀ j, 7420 ≤ j → j < 7460 → f' j = f j) (h5 : f' 5 = f 5) : MWh f' := fun m hm hlt => by
  rw [h5] at hlt
  rw [h _ (by omega) (by omega), h _ (by omega) (by omega)]; exact hl m hm hlt
theorem MW_cop {f f' : Nat → Int} (hf : MW f) (h : ∀ j, 1 ≤ j → j < 7460 → f' j = f j) : MW f' := by
  obtain ⟨⟨h1, h2, h3, h4, h5, h6, h7⟩, ha, hl, hq, hc, hn, he, hh⟩ := hf
  exact ⟨⟨by rw [h 1 (by decide) (by decide)]; exact h1, by rw [h 2 (by decide) (by decide)]; exact h2, by rw [h 3 (by decide) (by decide)]; exact h3, by rw [h 4 (by decide) (by decide)]; exact h4, by rw [h 5 (by decide) (by decide)]; exact h5, fun k hk => by rw [h _ (by omega) (by omega)]; exact h6 k hk, fun k hk => by rw [h _ (by omega) (by omega)]; exact h7 k hk⟩, MWa_con ha (fun j _ _ => h j (by omega) (by omega)), MWl_con hl (fun j _ _ => h j (by omega) (by omega)), MWq_con hq (fun j _ _ => h j (by omega) (by omega)), MWc_con hc (fun j _ _ => h j (by omega) (by omega)), MWn_con hn (fun j _ _ => h j (by omega) (by omega)), MWe_con he (fun j _ _ => h j (by omega) (by omega)), MWh_con hh (fun j _ _ => h j (by omega) (by omega)) (h 5 (by decide) (by decide))⟩
theorem MW_q1 {f f' : Nat → Int} (hf : MW f) (hn : f 1 < 12) (h1 : f' 1 = f 1 + 1) (h : ∀ j, ¬ j = 1 → ¬ (5320 + 5 * (f 1).toNat ≤ j ∧ j ≤ 5320 + 5 * (f 1).toNat + 4) → f' j = f j) (hr : qOK (f' (5320 + (5 * f 1)).toNat) (f' ((5320 + (5 * f 1)) + 1).toNat) (f' ((5320 + (5 * f 1)) + 2).toNat) (f' ((5320 + (5 * f 1)) + 3).toNat) (f' ((5320 + (5 * f 1)) + 4).toNat)) : MW f' := by
  obtain ⟨⟨g1, g2, g3, g4, g5, g6, g7⟩, ha, hl, hq, hc, hi, he, hh⟩ := hf
  rw [show (5320 + (5 * f 1)).toNat = 5320 + 5 * (f 1).toNat by omega, show ((5320 + (5 * f 1)) + 1).toNat = 5320 + 5 * (f 1).toNat + 1 by omega, show ((5320 + (5 * f 1)) + 2).toNat = 5320 + 5 * (f 1).toNat + 2 by omega, show ((5320 + (5 * f 1)) + 3).toNat = 5320 + 5 * (f 1).toNat + 3 by omega, show ((5320 + (5 * f 1)) + 4).toNat = 5320 + 5 * (f 1).toNat + 4 by omega] at hr
  refine ⟨⟨by omega, by rw [h 2 (by omega) (by omega)]; exact g2, by rw [h 3 (by omega) (by omega)]; exact g3, by rw [h 4 (by omega) (by omega)]; exact g4, by rw [h 5 (by omega) (by omega)]; exact g5, fun k hk => by rw [h _ (by omega) (by omega)]; exact g6 k hk, fun k hk => by rw [h _ (by omega) (by omega)]; exact g7 k hk⟩, MWa_con ha (fun j _ _ => h j (by omega) (by omega)), MWl_con hl (fun j _ _ => h j (by omega) (by omega)), ?_, MWc_con hc (fun j _ _ => h j (by omega) (by omega)), MWn_con hi (fun j _ _ => h j (by omega) (by omega)), MWe_con he (fun j _ _ => h j (by omega) (by omega)), MWh_con hh (fun j _ _ => h j (by omega) (by omega)) (h 5 (by omega) (by omega))⟩
  intro q hq'
  by_cases e : q = (f 1).toNat
  · subst e; exact hr
  · rw [h _ (by omega) (by omega), h _ (by omega) (by omega), h _ (by omega) (by omega), h _ (by omega) (by omega), h _ (by omega) (by omega)]; exact hq q hq'
theorem MW_c1 {f f' : Nat → Int} (hf : MW f) (hn : f 2 < 40) (h1 : f' 2 = f 2 + 1) (h : ∀ j, ¬ j = 2 → ¬ (5380 + 4 * (f 2).toNat ≤ j ∧ j ≤ 5380 + 4 * (f 2).toNat + 3) → f' j = f j) (hr : cOK (f' (5380 + (4 * f 2)).toNat) (f' ((5380 + (4 * f 2)) + 1).toNat) (f' ((5380 + (4 * f 2)) + 2).toNat) (f' ((5380 + (4 * f 2)) + 3).toNat)) : MW f' := by
  obtain ⟨⟨g1, g2, g3, g4, g5, g6, g7⟩, ha, hl, hq, hc, hi, he, hh⟩ := hf
  rw [show (5380 + (4 * f 2)).toNat = 5380 + 4 * (f 2).toNat by omega, show ((5380 + (4 * f 2)) + 1).toNat = 5380 + 4 * (f 2).toNat + 1 by omega, show ((5380 + (4 * f 2)) + 2).toNat = 5380 + 4 * (f 2).toNat + 2 by omega, show ((5380 + (4 * f 2)) + 3).toNat = 5380 + 4 * (f 2).toNat + 3 by omega] at hr
  refine ⟨⟨by rw [h 1 (by omega) (by omega)]; exact g1, by omega, by rw [h 3 (by omega) (by omega)]; exact g3, by rw [h 4 (by omega) (by omega)]; exact g4, by rw [h 5 (by omega) (by omega)]; exact g5, fun k hk => by rw [h _ (by omega) (by omega)]; exact g6 k hk, fun k hk => by rw [h _ (by omega) (by omega)]; exact g7 k hk⟩, MWa_con ha (fun j _ _ => h j (by omega) (by omega)), MWl_con hl (fun j _ _ => h j (by omega) (by omega)), MWq_con hq (fun j _ _ => h j (by omega) (by omega)), ?_, MWn_con hi (fun j _ _ => h j (by omega) (by omega)), MWe_con he (fun j _ _ => h j (by omega) (by omega)), MWh_con hh (fun j _ _ => h j (by omega) (by omega)) (h 5 (by omega) (by omega))⟩
  intro q hq'
  by_cases e : q = (f 2).toNat
  · subst e; exact hr
  · rw [h _ (by omega) (by omega), h _ (by omega) (by omega), h _ (by omega) (by omega), h _ (by omega) (by omega)]; exact hc q hq'
theorem MW_n1 {f f' : Nat → Int} (hf : MW f) (hn : f 3 < 300) (h1 : f' 3 = f 3 + 1) (h : ∀ j, ¬ j = 3 → ¬ (5540 + 6 * (f 3).toNat ≤ j ∧ j ≤ 5540 + 6 * (f 3).toNat + 5) → f' j = f j) (hr : nOK (f' (5540 + (6 * f 3)).toNat) (f' ((5540 + (6 * f 3)) + 1).toNat) (f' ((5540 + (6 * f 3)) + 2).toNat)) : MW f' := by
  obtain ⟨⟨g1, g2, g3, g4, g5, g6, g7⟩, ha, hl, hq, hc, hi, he, hh⟩ := hf
  rw [show (5540 + (6 * f 3)).toNat = 5540 + 6 * (f 3).toNat by omega, show ((5540 + (6 * f 3)) + 1).toNat = 5540 + 6 * (f 3).toNat + 1 by omega, show ((5540 + (6 * f 3)) + 2).toNat = 5540 + 6 * (f 3).toNat + 2 by omega] at hr
  refine ⟨⟨by rw [h 1 (by omega) (by omega)]; exact g1, by rw [h 2 (by omega) (by omega)]; exact g2, by omega, by rw [h 4 (by omega) (by omega)]; exact g4, by rw [h 5 (by omega) (by omega)]; exact g5, fun k hk => by rw [h _ (by omega) (by omega)]; exact g6 k hk, fun k hk => by rw [h _ (by omega) (by omega)]; exact g7 k hk⟩, MWa_con ha (fun j _ _ => h j (by omega) (by omega)), MWl_con hl (fun j _ _ => h j (by omega) (by omega)), MWq_con hq (fun j _ _ => h j (by omega) (by omega)), MWc_con hc (fun j _ _ => h j (by omega) (by omega)), ?_, MWe_con he (fun j _ _ => h j (by omega) (by omega)), MWh_con hh (fun j _ _ => h j (by omega) (by omega)) (h 5 (by omega) (by omega))⟩
  intro q hq'
  by_cases e : q = (f 3).toNat
  · subst e; exact hr
  · rw [h _ (by omega) (by omega), h _ (by omega) (by omega), h _ (by omega) (by omega)]; exact hi q hq'
theorem MW_e1 {f f' : Nat → Int} (hf : MW f) (hn : f 4 < 40) (h1 : f' 4 = f 4 + 1) (h : ∀ j, ¬ j = 4 → ¬ (7340 + 2 * (f 4).toNat ≤ j ∧ j ≤ 7340 + 2 * (f 4).toNat + 1) → f' j = f j) (hr : (0 ≤ f' (7340 + (2 * f 4)).toNat ∧ f' (7340 + (2 * f 4)).toNat ≤ 9999) ∧ (0 ≤ f' ((7340 + (2 * f 4)) + 1).toNat ∧ f' ((7340 + (2 * f 4)) + 1).toNat ≤ 9999)) : MW f' := by
  obtain ⟨⟨g1, g2, g3, g4, g5, g6, g7⟩, ha, hl, hq, hc, hi, he, hh⟩ := hf
  rw [show (7340 + (2 * f 4)).toNat = 7340 + 2 * (f 4).toNat by omega, show ((7340 + (2 * f 4)) + 1).toNat = 7340 + 2 * (f 4).toNat + 1 by omega] at hr
  refine ⟨⟨by rw [h 1 (by omega) (by omega)]; exact g1, by rw [h 2 (by omega) (by omega)]; exact g2, by rw [h 3 (by omega) (by omega)]; exact g3, by omega, by rw [h 5 (by omega) (by omega)]; exact g5, fun k hk => by rw [h _ (by omega) (by omega)]; exact g6 k hk, fun k hk => by rw [h _ (by omega) (by omega)]; exact g7 k hk⟩, MWa_con ha (fun j _ _ => h j (by omega) (by omega)), MWl_con hl (fun j _ _ => h j (by omega) (by omega)), MWq_con hq (fun j _ _ => h j (by omega) (by omega)), MWc_con hc (fun j _ _ => h j (by omega) (by omega)), MWn_con hi (fun j _ _ => h j (by omega) (by omega)), ?_, MWh_con hh (fun j _ _ => h j (by omega) (by omega)) (h 5 (by omega) (by omega))⟩
  intro q hq'
  by_cases e : q = (f 4).toNat
  · subst e; exact hr
  · rw [h _ (by omega) (by omega), h _ (by omega) (by omega)]; exact he q hq'
theorem MW_h1 {f f' : Nat → Int} (hf : MW f) (hn : f 5 < 20) (h1 : f' 5 = f 5 + 1) (h : ∀ j, ¬ j = 5 → ¬ (7420 + 2 * (f 5).toNat ≤ j ∧ j ≤ 7420 + 2 * (f 5).toNat + 1) → f' j = f j) (hr : (1 ≤ f' (7420 + (2 * f 5)).toNat ∧ f' (7420 + (2 * f 5)).toNat ≤ 999) ∧ (0 ≤ f' ((7420 + (2 * f 5)) + 1).toNat ∧ f' ((7420 + (2 * f 5)) + 1).toNat ≤ 999)) : MW f' := by
  obtain ⟨⟨g1, g2, g3, g4, g5, g6, g7⟩, ha, hl, hq, hc, hi, he, hh⟩ := hf
  rw [show (7420 + (2 * f 5)).toNat = 7420 + 2 * (f 5).toNat by omega, show ((7420 + (2 * f 5)) + 1).toNat = 7420 + 2 * (f 5).toNat + 1 by omega] at hr
  refine ⟨⟨by rw [h 1 (by omega) (by omega)]; exact g1, by rw [h 2 (by omega) (by omega)]; exact g2, by rw [h 3 (by omega) (by omega)]; exact g3, by rw [h 4 (by omega) (by omega)]; exact g4, by omega, fun k hk => by rw [h _ (by omega) (by omega)]; exact g6 k hk, fun k hk => by rw [h _ (by omega) (by omega)]; exact g7 k hk⟩, MWa_con ha (fun j _ _ => h j (by omega) (by omega)), MWl_con hl (fun j _ _ => h j (by omega) (by omega)), MWq_con hq (fun j _ _ => h j (by omega) (by omega)), MWc_con hc (fun j _ _ => h j (by omega) (by omega)), MWn_con hi (fun j _ _ => h j (by omega) (by omega)), MWe_con he (fun j _ _ => h j (by omega) (by omega)), ?_⟩
  intro q hq' hlt
  by_cases e : q = (f 5).toNat
  · subst e; exact hr
  · rw [h _ (by omega) (by omega), h _ (by omega) (by omega)]; exact hh q hq' (by omega)
theorem fr_at {S : List Nat} {d0 d1 : Nat → Nat → Int} {k : Nat} (h : Fr S d0 d1) (hs : k ∉ S) (j : Nat) : d1 k j = d0 k j := h k hs j
theorem im_0 {f f' : Nat → Int} : ∀ j : Nat, (j : Int) < 0 → f' j = f j := fun j h => by omega
theorem im_step {D : Nat → Nat → Int} {f : Nat → Int} {k : Nat} {l x : Int} (h : ∀ j : Nat, (j : Int) < l → D k j = f j) (hl : 0 ≤ l) (hx : x = f l.toNat) : ∀ j : Nat, (j : Int) < l + 1 → u2 D k l.toNat x k j = f j := by
  intro j hj
  by_cases e : j = l.toNat
  · subst e; rw [u2_eq]; exact hx
  · rw [u2_ne (fun z => e z.2)]; exact h j (by omega)
theorem im_mw {f f' : Nat → Int} {l : Int} (hm : MW f) (h : ∀ j : Nat, (j : Int) < l → f' j = f j) (hl : 7460 ≤ l) : MW f' := MW_cop hm (fun j _ h2 => h j (by omega))
theorem im_6 {f f' : Nat → Int} {l : Int} (h : ∀ j : Nat, (j : Int) < l → f' j = f j) (hl : 7460 ≤ l) : ∀ j, j < 6 → f' j = f j := fun j h2 => h j (by omega)
theorem MW_frk {S : List Nat} {d0 d1 : Nat → Nat → Int} {k : Nat} (h : MW (d0 k)) (hF : Fr S d0 d1) (hs : k ∉ S) : MW (d1 k) := by
  have e : d1 k = d0 k := funext (hF k hs)
  rw [e]; exact h
