/-! MAKE: the first act that parts two RULES: acts by their place in the order (4 come, 4 leave, 48 move) -/
def mkW (W : WD) (n : Nat) : WD := if n < 4 then wact W 0 n 0 0 0 else if n < 8 then wact W 1 (n - 4) 0 0 0 else wact W 3 ((n - 8) / 12) ((n - 8) / 4 % 3) (((n - 8) % 4 : Nat) : Int) 0
def mkT (W : WD) (k x t v a b : Int) (n : Nat) : Prop := ¬ RUL (mkW W n) k x t v a = RUL (mkW W n) k x t v b
def mkC (n : Nat) : Int := if n < 4 then (n : Int) else if n < 8 then 10 + ((n : Int) - 4) else 100 + ((n : Int) - 8)
def mkR (T : Nat → Prop) (v : Int) : Prop := (v = -1 ∧ ∀ n : Nat, n < 56 → ¬ T n) ∨ ∃ n : Nat, n < 56 ∧ T n ∧ (∀ m : Nat, m < n → ¬ T m) ∧ v = mkC n
theorem mkR_u {T : Nat → Prop} {v v' : Int} (h : mkR T v) (h' : mkR T v') : v = v' := by
  rcases h with ⟨e, h⟩ | ⟨n, hn, t, h, e⟩
  · rcases h' with ⟨e', _⟩ | ⟨n', hn', t', _, _⟩
    · rw [e, e']
    · exact absurd t' (h n' hn')
  · rcases h' with ⟨_, h'⟩ | ⟨n', hn', t', h', e'⟩
    · exact absurd t (h' n hn)
    · by_cases c : n < n'
      · exact absurd t (h' n c)
      · by_cases c' : n' < n
        · exact absurd t' (h n' c')
        · rw [e, e', show n = n' by omega]
theorem mkR_c {T T' : Nat → Prop} {v : Int} (e : ∀ n, T n ↔ T' n) (h : mkR T v) : mkR T' v := by
  rcases h with ⟨q, h⟩ | ⟨n, hn, t, h, q⟩
  · exact .inl ⟨q, fun n hn z => h n hn ((e n).2 z)⟩
  · exact .inr ⟨n, hn, (e n).1 t, fun m hm z => h m hm ((e m).2 z), q⟩
theorem mkR_n {T : Nat → Prop} {v : Int} (e : ∀ n, ¬ T n) (h : mkR T v) : v = -1 := by
  rcases h with ⟨q, _⟩ | ⟨n, _, t, _, _⟩
  · exact q
  · exact absurd t (e n)
theorem mkW_0 {W : WD} {l : Int} (h : 0 ≤ l ∧ l < 4) : wact W 0 l.toNat (0 : Int).toNat 0 (0 : Int).toNat = mkW W l.toNat := by
  unfold mkW; rw [if_pos (by omega)]; rfl
theorem mkW_1 {W : WD} {l : Int} (h : 0 ≤ l ∧ l < 4) : wact W 1 l.toNat (0 : Int).toNat 0 (0 : Int).toNat = mkW W (4 + l).toNat := by
  unfold mkW; rw [if_neg (by omega), if_pos (by omega), show (4 + l).toNat - 4 = l.toNat by omega]; rfl
theorem mkW_3 {W : WD} {l : Int} (h : 0 ≤ l ∧ l < 48) : wact W 3 (l / 12).toNat (l / 4 % 3).toNat (l % 4) (0 : Int).toNat = mkW W (8 + l).toNat := by
  unfold mkW
  rw [if_neg (by omega), if_neg (by omega), show ((8 + l).toNat - 8) / 12 = (l / 12).toNat by omega, show ((8 + l).toNat - 8) / 4 % 3 = (l / 4 % 3).toNat by omega, show ((((8 + l).toNat - 8) % 4 : Nat) : Int) = l % 4 by omega]
  rfl
theorem mkC_0 {l : Int} (h : 0 ≤ l ∧ l < 4) : l = mkC l.toNat := by unfold mkC; rw [if_pos (by omega)]; omega
theorem mkC_1 {l : Int} (h : 0 ≤ l ∧ l < 4) : 10 + l = mkC (4 + l).toNat := by unfold mkC; rw [if_neg (by omega), if_pos (by omega)]; omega
theorem mkC_3 {l : Int} (h : 0 ≤ l ∧ l < 48) : 100 + l = mkC (8 + l).toNat := by unfold mkC; rw [if_neg (by omega), if_neg (by omega)]; omega
/-- the acts as numbers say what they should -/
theorem mkD_01 : ∀ a : Fin 2, ∀ x : Fin 4, am_and (am_or (a.val : Int) (am_shl (x.val : Int) 4)) 15 = (a.val : Int) ∧ am_and (am_shr (am_or (a.val : Int) (am_shl (x.val : Int) 4)) 8) 3 ≤ 2 ∧ am_and (am_shr (am_or (a.val : Int) (am_shl (x.val : Int) 4)) 4) 3 = (x.val : Int) := by decide +kernel
theorem mkD_0 {l : Int} (h : 0 ≤ l ∧ l < 4) : ADEC (am_or 0 (am_shl l 4)) 0 l 0 0 0 := by
  have z := mkD_01 0 ⟨l.toNat, by omega⟩
  rw [show ((l.toNat : Nat) : Int) = l by omega] at z
  exact ⟨z.1, by omega, z.2.1, fun _ => z.2.2, fun c => absurd c (by decide), fun c => absurd c (by decide), fun c => absurd c (by decide), fun c => absurd c (by decide), fun c => absurd c (by decide)⟩
theorem mkD_1 {l : Int} (h : 0 ≤ l ∧ l < 4) : ADEC (am_or 1 (am_shl l 4)) 1 l 0 0 0 := by
  have z := mkD_01 1 ⟨l.toNat, by omega⟩
  rw [show ((l.toNat : Nat) : Int) = l by omega] at z
  exact ⟨z.1, by omega, z.2.1, fun _ => z.2.2, fun c => absurd c (by decide), fun c => absurd c (by decide), fun c => absurd c (by decide), fun c => absurd c (by decide), fun c => absurd c (by decide)⟩
def mkE (l : Int) : Int := am_or (am_or (am_or 3 (am_shl (l / 12) 4)) (am_shl (l / 4 % 3) 8)) (am_shl (l % 4) 10)
theorem mkD_33 : ∀ n : Fin 48, am_and (mkE (n.val : Int)) 15 = 3 ∧ am_and (am_shr (mkE (n.val : Int)) 8) 3 ≤ 2 ∧ am_and (am_shr (mkE (n.val : Int)) 4) 3 = (n.val : Int) / 12 ∧ am_and (am_shr (mkE (n.val : Int)) 8) 3 = (n.val : Int) / 4 % 3 ∧ am_and (am_shr (mkE (n.val : Int)) 10) 3 = (n.val : Int) % 4 := by decide +kernel
theorem mkD_3 {l : Int} (h : 0 ≤ l ∧ l < 48) : ADEC (am_or (am_or (am_or 3 (am_shl (l / 12) 4)) (am_shl (l / 4 % 3) 8)) (am_shl (l % 4) 10)) 3 (l / 12) (l / 4 % 3) (l % 4) 0 := by
  have z := mkD_33 ⟨l.toNat, by omega⟩
  rw [show ((l.toNat : Nat) : Int) = l by omega] at z
  exact ⟨z.1, by omega, z.2.1, fun _ => z.2.2.1, fun c => absurd c (by decide), fun _ => z.2.2.2.1, fun _ => z.2.2.2.2, fun c => absurd c (by decide), fun c => absurd c (by decide)⟩
/-- the trial beside the played world -/
theorem mk_cp {D D1 : Nat → Nat → Int} (h0 : ∀ j : Nat, j < 4 → D1 58 j = D 44 j) (h1 : ∀ j : Nat, j < 4 → D1 59 j = D 45 j) (h2 : ∀ j : Nat, j < 8 → D1 60 j = D 46 j) (h3 : ∀ j : Nat, j < 3 → D1 61 j = D 47 j) (h4 : ∀ j : Nat, j < 3 → D1 62 j = D 48 j) (h5 : ∀ j : Nat, j < 3 → D1 63 j = D 49 j) (h6 : ∀ j : Nat, j < 3 → D1 64 j = D 50 j) (h7 : ∀ j : Nat, j < 6 → D1 65 j = D 51 j) (h8 : ∀ j : Nat, j < 12 → D1 66 j = D 52 j) (h9 : ∀ j : Nat, j < 12 → D1 67 j = D 53 j) (h10 : ∀ j : Nat, j < 12 → D1 68 j = D 54 j) (h11 : ∀ j : Nat, j < 12 → D1 69 j = D 55 j) (h12 : ∀ j : Nat, j < 48 → D1 70 j = D 56 j) : VC 58 D1 = VC 44 D := by
  funext f j
  unfold VC
  by_cases c : f < 13 ∧ j < LN f
  · rw [if_pos c, if_pos c]
    obtain ⟨c1, c2⟩ := c
    rcases (show f = 0 ∨ f = 1 ∨ f = 2 ∨ f = 3 ∨ f = 4 ∨ f = 5 ∨ f = 6 ∨ f = 7 ∨ f = 8 ∨ f = 9 ∨ f = 10 ∨ f = 11 ∨ f = 12 by omega) with e | e | e | e | e | e | e | e | e | e | e | e | e <;> subst e
    · exact h0 j c2
    · exact h1 j c2
    · exact h2 j c2
    · exact h3 j c2
    · exact h4 j c2
    · exact h5 j c2
    · exact h6 j c2
    · exact h7 j c2
    · exact h8 j c2
    · exact h9 j c2
    · exact h10 j c2
    · exact h11 j c2
    · exact h12 j c2
  · rw [if_neg c, if_neg c]
/-! what both answer -/
def mkV (C : Prop) (T : Nat → Prop) (v : Int) : Prop := (C → mkR T v) ∧ (¬ C → v = -1)
theorem mkV_n {C : Prop} {T : Nat → Prop} (h : ¬ C) : mkV C T (-1) := ⟨fun c => absurd c h, fun _ => rfl⟩
theorem mkV_y {C : Prop} {T : Nat → Prop} {v : Int} (h : mkR T v) (c : C) : mkV C T v := ⟨fun _ => h, fun z => absurd c z⟩
def mkS (A8 A3 : Nat → Int) (n p1 p2 p3 : Int) : Prop := (0 ≤ p1 ∧ p1 < n) ∧ (0 ≤ p2 ∧ p2 ≤ 7) ∧ (0 ≤ p3 ∧ p3 ≤ 7) ∧ A3 (A8 (((p1 * 5) + 0)).toNat).toNat < 24
def mk5 (A8 A3 f : Nat → Int) (n p1 p2 p3 v : Int) : Prop := mkV (mkS A8 A3 n p1 p2 p3) (mkT (wend f (A8 (((p1 * 5) + 0)).toNat)) (A8 (((p1 * 5) + 1)).toNat) (A8 (((p1 * 5) + 2)).toNat) (A8 (((p1 * 5) + 3)).toNat) (A8 (((p1 * 5) + 4)).toNat) p2 p3) v
theorem mk5_n {A8 A3 f : Nat → Int} {n p1 p2 p3 : Int} (h : ¬ ((0 ≤ p1 ∧ p1 < n) ∧ (0 ≤ p2 ∧ p2 ≤ 7) ∧ (0 ≤ p3 ∧ p3 ≤ 7) ∧ A3 (A8 (((p1 * 5) + 0)).toNat).toNat < 24)) : mk5 A8 A3 f n p1 p2 p3 (-1) := mkV_n h
def mkZ (f : Nat → Int) (p1 p2 p3 : Int) : Prop := (0 ≤ p1 ∧ p1 < f 1) ∧ (0 ≤ p2 ∧ p2 ≤ 7) ∧ (0 ≤ p3 ∧ p3 ≤ 7) ∧ ¬ p2 = p3 ∧ ¬ f (6 + f (((5320 + (5 * p1)) + 0)).toNat).toNat = 24
def mk6 (f : Nat → Int) (p1 p2 p3 v : Int) : Prop := mkV (mkZ f p1 p2 p3) (mkT (wend f (f (5320 + 5 * p1.toNat))) (f (5320 + 5 * p1.toNat + 1)) (f (5320 + 5 * p1.toNat + 2)) (f (5320 + 5 * p1.toNat + 3)) (f (5320 + 5 * p1.toNat + 4)) p2 p3) v
theorem mk6_n {f : Nat → Int} {p1 p2 p3 : Int} (h : ¬ ((0 ≤ p1 ∧ p1 < f 1) ∧ (0 ≤ p2 ∧ p2 ≤ 7) ∧ (0 ≤ p3 ∧ p3 ≤ 7) ∧ ¬ p2 = p3 ∧ ¬ f (6 + f (((5320 + (5 * p1)) + 0)).toNat).toNat = 24)) : mk6 f p1 p2 p3 (-1) := mkV_n h
theorem mk_v {A2 A3 A8 f f' : Nat → Int} {n p1 p2 p3 v v' : Int} (hS : SCL A2 A3 f) (hQ : QRL A8 f) (hM : MW f) (hn : n = f 1) (h : mk5 A8 A3 f n p1 p2 p3 v) (h' : mk6 f p1 p2 p3 v') : v = v' := by
  have b1 := hM.1.1
  by_cases c : (0 ≤ p1 ∧ p1 < f 1) ∧ (0 ≤ p2 ∧ p2 ≤ 7) ∧ (0 ≤ p3 ∧ p3 ≤ 7)
  · obtain ⟨c1, c2, c3⟩ := c
    have z := hQ p1.toNat (by omega)
    obtain ⟨z0, z1, z2, z3, z4, z5⟩ := z
    have m := (hM.2.2.2.1 p1.toNat (by omega)).1
    have y := (hS (f (5320 + 5 * p1.toNat)).toNat (by omega)).1
    have am := MW_am hM (f (5320 + 5 * p1.toNat)) ⟨m.1, m.2⟩
    have e6 : (6 + f (5320 + 5 * p1.toNat)).toNat = 6 + (f (5320 + 5 * p1.toNat)).toNat := by omega
    have ei : (((5320 + (5 * p1)) + 0)).toNat = 5320 + 5 * p1.toNat := by omega
    have k0 : (((p1 * 5) + 0)).toNat = 5 * p1.toNat := by omega
    have k1 : (((p1 * 5) + 1)).toNat = 5 * p1.toNat + 1 := by omega
    have k2 : (((p1 * 5) + 2)).toNat = 5 * p1.toNat + 2 := by omega
    have k3 : (((p1 * 5) + 3)).toNat = 5 * p1.toNat + 3 := by omega
    have k4 : (((p1 * 5) + 4)).toNat = 5 * p1.toNat + 4 := by omega
    unfold mk5 at h
    rw [k0, k1, k2, k3, k4, z0, z1, z2, z3] at h
    have hT : ∀ k : Nat, mkT (wend f (f (5320 + 5 * p1.toNat))) (f (5320 + 5 * p1.toNat + 1)) (f (5320 + 5 * p1.toNat + 2)) (f (5320 + 5 * p1.toNat + 3)) (A8 (5 * p1.toNat + 4)) p2 p3 k ↔ mkT (wend f (f (5320 + 5 * p1.toNat))) (f (5320 + 5 * p1.toNat + 1)) (f (5320 + 5 * p1.toNat + 2)) (f (5320 + 5 * p1.toNat + 3)) (f (5320 + 5 * p1.toNat + 4)) p2 p3 k := fun k => by
      unfold mkT
      rw [RUL_v (r := p2) z4, RUL_v (r := p3) z4]
    have e5 : mkS A8 A3 n p1 p2 p3 ↔ f (6 + f (5320 + 5 * p1.toNat)).toNat < 24 := by
      unfold mkS
      rw [k0, z0, y, e6]
      constructor
      · exact fun q => q.2.2.2
      · exact fun q => ⟨by omega, c2, c3, q⟩
    have e7 : mkZ f p1 p2 p3 ↔ (¬ p2 = p3 ∧ ¬ f (6 + f (5320 + 5 * p1.toNat)).toNat = 24) := by
      unfold mkZ
      rw [ei]
      constructor
      · exact fun q => q.2.2.2
      · exact fun q => ⟨c1, c2, c3, q⟩
    by_cases c4 : f (6 + f (5320 + 5 * p1.toNat)).toNat < 24
    · have g := mkR_c hT (h.1 (e5.2 c4))
      by_cases c5 : p2 = p3
      · rw [h'.2 (fun q => (e7.1 q).1 c5)]
        refine mkR_n (fun k q => ?_) g
        unfold mkT at q
        rw [c5] at q
        exact q rfl
      · exact mkR_u g (h'.1 (e7.2 ⟨c5, by omega⟩))
    · rw [h.2 (fun q => c4 (e5.1 q)), h'.2 (fun q => (e7.1 q).2 (by omega))]
  · rw [h.2 (fun q => c ⟨by have := q.1; omega, q.2.1, q.2.2.1⟩), h'.2 (fun q => c ⟨q.1, q.2.1, q.2.2.1⟩)]
