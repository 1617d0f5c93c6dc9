/-! weights made one by one; what a class's rows of CHILDREN and QUESTIONS say -/
theorem wgt_s {g g' : Nat → Int} {F fa : Nat → Int} {l i x : Int} (h : ∀ r : Nat, (r : Int) < i → g r = WH F fa l (r : Int)) (hi : 0 ≤ i) (hp : ∀ j, ¬ j = i.toNat → g' j = g j) (hx : g' i.toNat = x) (ex : x = WH F fa l i) : ∀ r : Nat, (r : Int) < i + 1 → g' r = WH F fa l (r : Int) := by
  intro r hr
  by_cases e : r = i.toNat
  · subst e
    rw [hx, ex, Int.toNat_of_nonneg hi]
  · rw [hp r e]
    exact h r (by omega)
theorem WGT_r {g : Nat → Int} {a : Int} {F fa : Nat → Int} {l r : Int} (h : WGT g a F fa l) (hr : 0 ≤ r ∧ r ≤ 8) : g r.toNat = WH F fa l r := by
  by_cases e : r = 8
  · rw [e]; exact h.2.1
  · have z := h.1 r.toNat (by omega)
    rw [Int.toNat_of_nonneg hr.1] at z
    exact z
theorem SAID_10 {f : Nat → Int} {q : Nat} : SAID f q 10 = wend f (f (5320 + 5 * q)) 6 0 + wend f (f (5320 + 5 * q)) 6 1 + wend f (f (5320 + 5 * q)) 6 2 := by
  unfold SAID SDW
  rw [if_neg (by decide), if_neg (by decide)]
theorem ALK_c {D : Nat → Nat → Int} {F : Nat → Int} (h : ALK D F) {c : Int} (hc : 0 ≤ c ∧ c < D 10 3) : D 11 (((c * 4) + 0)).toNat = F (5380 + 4 * c.toNat) ∧ D 11 (((c * 4) + 1)).toNat = F (5380 + 4 * c.toNat + 1) ∧ D 11 (((c * 4) + 2)).toNat = F (5380 + 4 * c.toNat + 2) ∧ D 11 (((c * 4) + 3)).toNat = F (5380 + 4 * c.toNat + 3) := by
  have e := h.2.2.2.2.2
  have z := h.2.2.2.1 c.toNat (by omega)
  rw [show (((c * 4) + 0)).toNat = 4 * c.toNat by omega, show (((c * 4) + 1)).toNat = 4 * c.toNat + 1 by omega, show (((c * 4) + 2)).toNat = 4 * c.toNat + 2 by omega, show (((c * 4) + 3)).toNat = 4 * c.toNat + 3 by omega]
  exact z
theorem ALK_l {D : Nat → Nat → Int} {F : Nat → Int} (h : ALK D F) (hM : MW F) {c : Int} (hc : 0 ≤ c ∧ c < D 10 3) : 0 ≤ D 11 (((c * 4) + 0)).toNat ∧ D 11 (((c * 4) + 0)).toNat ≤ 3 := by
  have e := h.2.2.2.2.2
  have b := hM.1.2.1
  have z := MW_c hM c ⟨by omega, by omega⟩
  rw [(ALK_c h hc).1, show 5380 + 4 * c.toNat = ((5380 + (4 * c)) + 0).toNat by omega]
  exact z.1
theorem ALK_q {D : Nat → Nat → Int} {F : Nat → Int} (h : ALK D F) (hM : MW F) {q : Int} (hq : 0 ≤ q ∧ q < D 7 3) : D 8 (((q * 5) + 1)).toNat = F (5320 + 5 * q.toNat + 1) ∧ (0 ≤ F (5320 + 5 * q.toNat + 1) ∧ F (5320 + 5 * q.toNat + 1) ≤ 1) ∧ D 9 (((q * 11) + 10)).toNat = SAID F q.toNat 10 := by
  have e := h.2.2.2.2.1
  have b := hM.1.1
  have m := (MW_q hM q ⟨by omega, by omega⟩).2.1
  rw [show ((5320 + (5 * q)) + 1).toNat = 5320 + 5 * q.toNat + 1 by omega] at m
  have z := h.2.1 q.toNat (by omega)
  have s := h.2.2.1 q.toNat (by omega) 10 (by decide)
  rw [show (((q * 5) + 1)).toNat = 5 * q.toNat + 1 by omega, show (((q * 11) + 10)).toNat = 11 * q.toNat + 10 by omega]
  exact ⟨z.2.1, m, s⟩
theorem TRS_1 {s k v e p : Int} {b : Nat → Int} {n : Nat} (h : TRS s k b n v e p) : s = 1 ∧ (0 ≤ k ∧ k ≤ 3) ∧ e = 0 → (FX 1 b n).1 = 0 ∧ v = (FX 1 b n).2.2 := by
  intro c
  obtain ⟨rfl, hk, he⟩ := c
  have ok : okT 1 k := Or.inr ⟨rfl, hk.1, hk.2⟩
  by_cases z : (FX 1 b n).1 = 0
  · exact ⟨z, ((h.2 ok).1 z).1⟩
  · exact absurd (((h.2 ok).2 z).2.1.symm.trans he) z
