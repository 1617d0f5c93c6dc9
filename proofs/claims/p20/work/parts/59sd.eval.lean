/-! what the class's code and the reference's steps come to is one -/
theorem exl_f {g : Nat → Int} : ∀ (n a : Nat), exl g a (n + 1) = stx (g (2 * a)) (g (2 * a + 1)) ++ exl g (a + 1) n
  | 0, a => by
    show [] ++ stx (g (2 * (a + 0))) (g (2 * (a + 0) + 1)) = _ ++ []
    rw [List.append_nil]; rfl
  | n + 1, a => by
    show exl g a (n + 1) ++ stx (g (2 * (a + (n + 1)))) (g (2 * (a + (n + 1)) + 1)) = _ ++ (exl g (a + 1) n ++ stx (g (2 * (a + 1 + n))) (g (2 * (a + 1 + n) + 1)))
    rw [exl_f n a, List.append_assoc, show a + (n + 1) = a + 1 + n by omega]
theorem wkd_bo {s a b : Int} (h : (7 ≤ s ∧ s ≤ 16) ∧ ¬ s = 10 ∧ ¬ s = 14) : wkd (6 - s) a b = bo s a b := by
  have c : s = 7 ∨ s = 8 ∨ s = 9 ∨ s = 11 ∨ s = 12 ∨ s = 13 ∨ s = 15 ∨ s = 16 := by omega
  rcases c with c | c | c | c | c | c | c | c <;> subst c <;> rfl
theorem cev_st {gv fa : Nat → Int} {s v z : Int} {k : List Int} (hg : ∀ q : Nat, q < 6 → gv q = fa (q + 1)) (h : efs s v (k.length : Int) = some z) (hv : s = 0 → 0 ≤ v) : cev gv (stx s v) k = evs fa s v k ∧ ((evs fa s v k).length : Int) = z := by
  unfold efs at h
  unfold stx evs
  by_cases c1 : 0 ≤ s ∧ s ≤ 6
  · rw [if_pos c1] at h
    rw [if_pos c1]
    have hz := Option.some.inj h
    by_cases c0 : s = 0
    · rw [if_pos c0, if_pos c0]
      refine ⟨?_, by rw [List.length_cons]; omega⟩
      show cst gv v k = _
      unfold cst; rw [if_pos (hv c0)]
    · rw [if_neg c0, if_neg c0, if_pos c1.2]
      refine ⟨?_, by rw [List.length_cons]; omega⟩
      show cst gv (-10 - s) k = _
      unfold cst; rw [if_neg (by omega), if_pos (by omega)]
      have e := hg (-11 - (-10 - s)).toNat (by omega)
      rw [e, show (-11 - (-10 - s)).toNat + 1 = s.toNat by omega]
  · rw [if_neg c1] at h
    rw [if_neg c1, if_neg (show ¬ s = 0 by omega)]
    by_cases c2 : s = 10
    · rw [if_pos c2] at h
      rw [if_pos c2]
      have hb : 1 ≤ (k.length : Int) ∧ 1 ≤ v ∧ v ≤ 9999 := by
        by_cases y : 1 ≤ (k.length : Int) ∧ 1 ≤ v ∧ v ≤ 9999
        · exact y
        · rw [if_neg y] at h; cases h
      rw [if_pos hb] at h
      have hz := Option.some.inj h
      rw [if_neg (by omega), if_pos c2]
      match k, hb, hz with
      | a :: r, hb, hz =>
        refine ⟨?_, by rw [← hz, List.length_cons, List.length_cons]⟩
        show cst gv (-4) (cst gv v (a :: r)) = _
        have e1 : cst gv v (a :: r) = v :: a :: r := by unfold cst; rw [if_pos (by omega)]
        have hb4 : isb (-4) := by unfold isb; decide
        rw [e1, (cst_b hb4).1]
        unfold wkd
        rw [if_neg (by decide), if_neg (by decide), if_neg (by decide), if_pos rfl, if_pos (by omega)]
    · rw [if_neg c2] at h
      rw [if_neg c2]
      by_cases c3 : s = 14
      · rw [if_pos c3] at h
        rw [if_pos c3]
        have hb : 1 ≤ (k.length : Int) := by
          by_cases y : 1 ≤ (k.length : Int)
          · exact y
          · rw [if_neg y] at h; cases h
        rw [if_pos hb] at h
        have hz := Option.some.inj h
        rw [if_neg (by omega), if_neg c2]
        match k, hb, hz with
        | a :: r, hb, hz =>
          refine ⟨?_, by rw [← hz, List.length_cons, List.length_cons]⟩
          show cst gv (6 - s) (a :: r) = _
          rw [c3]; rfl
      · rw [if_neg c3] at h
        rw [if_neg c3]
        have c4 : 7 ≤ s ∧ s ≤ 16 := by
          by_cases y : 7 ≤ s ∧ s ≤ 16
          · exact y
          · rw [if_neg y] at h; cases h
        rw [if_pos c4] at h
        have hb : 2 ≤ (k.length : Int) := by
          by_cases y : 2 ≤ (k.length : Int)
          · exact y
          · rw [if_neg y] at h; cases h
        rw [if_pos hb] at h
        have hz := Option.some.inj h
        rw [if_neg (by omega), if_neg c2]
        match k, hb, hz with
        | [_], hb, _ => simp at hb
        | b :: a :: r, hb, hz =>
          refine ⟨?_, by rw [← hz, List.length_cons, List.length_cons, List.length_cons]; omega⟩
          show cst gv (6 - s) (b :: a :: r) = _
          have hi : isb (6 - s) := by unfold isb; omega
          rw [(cst_b hi).1, wkd_bo ⟨c4, c2, c3⟩]
theorem cev_exl {g gv fa : Nat → Int} (hg : ∀ q : Nat, q < 6 → gv q = fa (q + 1)) : ∀ (n i : Nat) (k : List Int) (z : Int), ef g n i (k.length : Int) = some z → (∀ j : Nat, i ≤ j → j < i + n → g (2 * j) = 0 → 0 ≤ g (2 * j + 1)) → cev gv (exl g i n) k = ev g fa n i k
  | 0, _, _, _, _, _ => rfl
  | n + 1, i, k, z, h, hv => by
    rw [exl_f, cev_a, ev_s]
    have h2 : ((efs (g (2 * i)) (g (2 * i + 1)) (k.length : Int)).bind (ef g n (i + 1))) = some z := h
    cases e : efs (g (2 * i)) (g (2 * i + 1)) (k.length : Int) with
    | none => rw [e] at h2; cases h2
    | some y =>
      rw [e] at h2
      have s := cev_st (gv := gv) (fa := fa) hg e (hv i (by omega) (by omega))
      rw [s.1]
      exact cev_exl hg n (i + 1) _ z (by rw [s.2]; exact h2) (fun j a b => hv j (by omega) (by omega))
/-- the class's run over a piece of code -/
def RUNB (gv : Nat → Int) (l : List Int) : Int := (cevB gv l []).headD 0
theorem RUN_CT {f gv fa : Nat → Int} {k b c : Int} {l : List Int} (hg : ∀ q : Nat, q < 6 → gv q = fa (q + 1)) (e : l = exl (SG f k.toNat) b.toNat (c - b).toNat) (hb : BD gv l 40) (h0 : 0 ≤ b) (hs : Seg (SG f k.toNat) b.toNat c.toNat) (hv : ∀ j : Nat, b ≤ (j : Int) → (j : Int) < c → SG f k.toNat (2 * j) = 0 → 0 ≤ SG f k.toNat (2 * j + 1)) : RUNB gv l = CT f fa k b c := by
  unfold RUNB CT
  rw [(hb [] (by show 0 + 40 ≤ 64; decide)).1, e]
  have s := hs.2 0 (by decide)
  rw [show c.toNat - b.toNat = (c - b).toNat by omega] at s
  rw [cev_exl hg (c - b).toNat b.toNat [] _ (by show ef _ _ _ ((0 : Nat) : Int) = _; exact s) (fun j p q => hv j (by omega) (by omega))]
/-- a line alike: the q-th of law k -/
def LWR (A4 A6 f : Nat → Int) (k q : Nat) : Prop := A4 (64 * k + 4 * q) = f (978 + 16 * k + q) ∧ (0 ≤ A4 (64 * k + 4 * q + 1) ∧ A4 (64 * k + 4 * q + 1) ≤ A4 (64 * k + 4 * q + 2) ∧ A4 (64 * k + 4 * q + 2) ≤ A4 (64 * k + 4 * q + 3) ∧ A4 (64 * k + 4 * q + 3) ≤ 500) ∧ lst A6 (500 * k + (A4 (64 * k + 4 * q + 1)).toNat) (A4 (64 * k + 4 * q + 2) - A4 (64 * k + 4 * q + 1)).toNat = exl (SG f k) (f (1042 + 16 * k + q)).toNat (f (1106 + 16 * k + q) - f (1042 + 16 * k + q)).toNat ∧ lst A6 (500 * k + (A4 (64 * k + 4 * q + 2)).toNat) (A4 (64 * k + 4 * q + 3) - A4 (64 * k + 4 * q + 2)).toNat = exl (SG f k) (f (1106 + 16 * k + q)).toNat (f (1170 + 16 * k + q) - f (1106 + 16 * k + q)).toNat ∧ (∀ gv, BD gv (exl (SG f k) (f (1042 + 16 * k + q)).toNat (f (1106 + 16 * k + q) - f (1042 + 16 * k + q)).toNat) 40 ∧ (f (1106 + 16 * k + q) < f (1170 + 16 * k + q) → BD gv (exl (SG f k) (f (1106 + 16 * k + q)).toNat (f (1170 + 16 * k + q) - f (1106 + 16 * k + q)).toNat) 40)) ∧ ∀ j : Nat, f (1042 + 16 * k + q) ≤ (j : Int) → (j : Int) < f (1170 + 16 * k + q) → SG f k (2 * j) = 0 → 0 ≤ SG f k (2 * j + 1)
def LWL (A4 A5 A6 f : Nat → Int) : Prop := ∀ k : Nat, k < 4 → A5 k = f (974 + k) ∧ ∀ q : Nat, (q : Int) < f (974 + k) → LWR A4 A6 f k q
theorem LWR_k {A4 A6 B4 B6 f f1 : Nat → Int} {k q : Nat} (h : LWR A4 A6 f k q) (hk : k < 4) (hq : q < 16) (hc : f (1170 + 16 * k + q) ≤ 510 ∧ f (1106 + 16 * k + q) ≤ f (1170 + 16 * k + q) ∧ f (1042 + 16 * k + q) ≤ f (1106 + 16 * k + q) ∧ 0 ≤ f (1042 + 16 * k + q)) (k4 : ∀ j, 64 * k ≤ j → j < 64 * k + 64 → B4 j = A4 j) (k6 : ∀ j, 500 * k ≤ j → j < 500 * k + 500 → B6 j = A6 j) (kf : ∀ z : Nat, z < 4 → f1 (978 + 64 * z + 16 * k + q) = f (978 + 64 * z + 16 * k + q)) (ks : ∀ j : Nat, j < 1020 → f1 (1240 + 1020 * k + j) = f (1240 + 1020 * k + j)) : LWR B4 B6 f1 k q := by
  unfold LWR at h ⊢
  have z0 := kf 0 (by decide)
  have z1 := kf 1 (by decide)
  have z2 := kf 2 (by decide)
  have z3 := kf 3 (by decide)
  rw [show 978 + 64 * 0 + 16 * k + q = 978 + 16 * k + q by omega] at z0
  rw [show 978 + 64 * 1 + 16 * k + q = 1042 + 16 * k + q by omega] at z1
  rw [show 978 + 64 * 2 + 16 * k + q = 1106 + 16 * k + q by omega] at z2
  rw [show 978 + 64 * 3 + 16 * k + q = 1170 + 16 * k + q by omega] at z3
  have es : ∀ j, j < 1020 → SG f1 k j = SG f k j := fun j hj => ks j hj
  obtain ⟨h1, h2, h3, h4, h5, h6⟩ := h
  rw [k4 _ (by omega) (by omega), k4 _ (by omega) (by omega), k4 _ (by omega) (by omega), k4 _ (by omega) (by omega), z0, z1, z2, z3]
  have x1 : exl (SG f1 k) (f (1042 + 16 * k + q)).toNat (f (1106 + 16 * k + q) - f (1042 + 16 * k + q)).toNat = exl (SG f k) (f (1042 + 16 * k + q)).toNat (f (1106 + 16 * k + q) - f (1042 + 16 * k + q)).toNat := exl_c _ (fun j a b => es j (by omega))
  have x2 : exl (SG f1 k) (f (1106 + 16 * k + q)).toNat (f (1170 + 16 * k + q) - f (1106 + 16 * k + q)).toNat = exl (SG f k) (f (1106 + 16 * k + q)).toNat (f (1170 + 16 * k + q) - f (1106 + 16 * k + q)).toNat := exl_c _ (fun j a b => es j (by omega))
  rw [x1, x2]
  refine ⟨h1, h2, ?_, ?_, h5, fun j a b => by rw [es _ (by omega), es _ (by omega)]; exact h6 j a b⟩
  · rw [lst_c (g := A6) _ (fun j a b => k6 j (by omega) (by omega))]; exact h3
  · rw [lst_c (g := A6) _ (fun j a b => k6 j (by omega) (by omega))]; exact h4
theorem MW_lb {f : Nat → Int} (hM : MW f) {k q : Nat} (hk : k < 4) (hq : (q : Int) < f (974 + k)) : q < 16 ∧ f (1170 + 16 * k + q) ≤ 510 ∧ f (1106 + 16 * k + q) ≤ f (1170 + 16 * k + q) ∧ f (1042 + 16 * k + q) ≤ f (1106 + 16 * k + q) ∧ 0 ≤ f (1042 + 16 * k + q) := by
  have m := MW_lm hM (k : Int) ⟨by omega, by omega⟩
  rw [show (974 + (k : Int)).toNat = 974 + k by omega] at m
  have z := MW_l hM (k : Int) (q : Int) ⟨by omega, by omega⟩ ⟨by omega, by rw [show (974 + (k : Int)).toNat = 974 + k by omega]; exact hq⟩
  rw [show (1042 + ((16 * (k : Int)) + (q : Int))).toNat = 1042 + 16 * k + q by omega, show (1106 + ((16 * (k : Int)) + (q : Int))).toNat = 1106 + 16 * k + q by omega, show (1170 + ((16 * (k : Int)) + (q : Int))).toNat = 1170 + 16 * k + q by omega] at z
  omega
theorem LWL_k {A4 A5 A6 B4 B5 B6 f f1 : Nat → Int} (h : LWL A4 A5 A6 f) (hM : MW f) (k4 : ∀ j : Nat, j < 256 → B4 j = A4 j) (k5 : ∀ j : Nat, j < 4 → B5 j = A5 j) (k6 : ∀ j : Nat, j < 2000 → B6 j = A6 j) (kf : ∀ j : Nat, 974 ≤ j → j < 5320 → f1 j = f j) : LWL B4 B5 B6 f1 := by
  intro k hk
  have z := h k hk
  rw [k5 k hk, kf (974 + k) (by omega) (by omega)]
  refine ⟨z.1, fun q hq => ?_⟩
  have b := MW_lb hM hk hq
  exact LWR_k (z.2 q hq) hk b.1 b.2 (fun j a c => k4 j (by omega)) (fun j a c => k6 j (by omega)) (fun y hy => kf _ (by omega) (by omega)) (fun j hj => kf _ (by omega) (by omega))
theorem LWL_0 {A4 A5 A6 f : Nat → Int} (h5 : ∀ j : Nat, j < 4 → A5 j = 0) (hf : ∀ j : Nat, 974 ≤ j → j < 978 → f j = 0) : LWL A4 A5 A6 f := by
  intro k hk
  rw [h5 k hk, hf (974 + k) (by omega) (by omega)]
  exact ⟨rfl, fun q hq => by omega⟩
/-! a text that went well: each of its lines did -/
theorem gX_L {K V : Nat → Int} : ∀ (f i : Nat) (c : Int), i = lpos K V c.toNat → 0 ≤ c → (gX K V 1 f i c).1 = 0 → ∀ q : Nat, c ≤ (q : Int) → (q : Int) < (gX K V 1 f i c).2.2 → (gLine K V (lpos K V q)).1 = 0
  | 0, i, c, _, _, h => by cases h
  | f + 1, i, c, hi, h0, h => by
    intro q hq hq2
    unfold gX at h hq2
    by_cases a : K i = 0
    · rw [if_pos a] at hq2
      have : (q : Int) < c := hq2
      omega
    · rw [if_neg a, if_neg (by decide)] at h hq2
      by_cases b : ¬ (K i = 1000 ∨ K i = 1001)
      · rw [if_pos b] at h; cases h
      · rw [if_neg b] at h hq2
        by_cases d : 16 ≤ c
        · rw [if_pos d] at h; cases h
        · rw [if_neg d] at h hq2
          by_cases g : (gLine K V i).1 = 0
          · rw [if_pos g] at h hq2
            by_cases e : (q : Int) = c
            · rw [show q = c.toNat by omega, ← hi]; exact g
            · exact gX_L f _ (c + 1) (by rw [hi, show (c + 1).toNat = c.toNat + 1 by omega]; rfl) (by omega) h q (by omega) hq2
          · rw [if_neg g] at h
            exact absurd h g
theorem gLine_1 {K V : Nat → Int} {i : Nat} (h : (gLine K V i).1 = 0) : (gE K V (lnP K i)).1 = 0 ∧ (K (gE K V (lnP K i)).2 = 1002 → (gB_ K V 8 ((gE K V (lnP K i)).2 + 1)).1 = 0) := by
  have h1 : (gL1 K V (lnP K i)).1 = 0 := by
    by_cases c : K i = 1001
    · rw [gLine_p c] at h; rw [lnP_p c]; exact h
    · rw [gLine_r c] at h
      have u := gB_1 h
      rw [lnP_r c]
      have y := gA_at u.1
      have u2 := u.2
      rw [y] at u2; exact u2
  have u := gB_1 h1
  refine ⟨u.1, fun c => ?_⟩
  have u2 := u.2
  rw [gL2_w c] at u2
  exact (gB_1 u2).1
theorem app_inj {l1 l2 m1 m2 : List Int} (h : l1 ++ l2 = m1 ++ m2) (hl : l1.length = m1.length) : l1 = m1 ∧ l2 = m2 := List.append_inj h hl
theorem LTOT_p {K V : Nat → Int} {q : Nat} : ∀ d : Nat, ∃ r, LTOT K V (q + d) = LTOT K V q ++ r
  | 0 => ⟨[], by rw [List.append_nil]; rfl⟩
  | d + 1 => by
    obtain ⟨r, e⟩ := LTOT_p d
    exact ⟨r ++ eLn K V (lpos K V (q + d)), by show LTOT K V (q + d) ++ eLn K V (lpos K V (q + d)) = _; rw [e, List.append_assoc]⟩
theorem lst_p {g : Nat → Int} {a n : Nat} {l r : List Int} (h : lst g a n = l ++ r) : lst g a l.length = l ∧ lst g (a + l.length) r.length = r := by
  have en : n = l.length + r.length := by rw [← List.length_append, ← h, lst_l]
  rw [en, lst_a] at h
  exact app_inj h (lst_l _)
/-- LAWS stay alike over a TEXT -/
theorem LWL_t {s k : Int} {b : Nat → Int} {n : Nat} {e v e' v' : Int} {A4 A5 A6 B4 B5 B6 f f1 : Nat → Int} (h : LWL A4 A5 A6 f) (hM : MW f) (x : TLC s k b n e v A4 A5 A6 B4 B5 B6) (y : TLR s k b n e' v' f f1) (ev : v' = v) (ee : e' = e) (hz : KZ (KF 1 b n) n) (hn : n ≤ 500) (hv : ∀ i, KF 1 b n i = 2 → 0 ≤ VF b n i) (hr : s = 1 ∧ (0 ≤ k ∧ k ≤ 3) ∧ e = 0 → (FX 1 b n).1 = 0 ∧ v = (FX 1 b n).2.2) : LWL B4 B5 B6 f1 := by
  subst ev; subst ee
  by_cases c : s = 1 ∧ (0 ≤ k ∧ k ≤ 3) ∧ e' = 0
  · obtain ⟨x1, x2, x3, x4, x5, x6, x7, x8⟩ := x.1 c
    obtain ⟨y1, y2, y3⟩ := y.1 c
    have hk := c.2.1
    have hf := hr c
    intro m hm
    by_cases em : m = k.toNat
    · subst em
      rw [x1, y1]
      refine ⟨rfl, fun q hq => ?_⟩
      obtain ⟨a, md, ce, r, r1, r2, r3, r4, r5, r6, r7⟩ := y3 q hq
      obtain ⟨w1, w2, w3, w4⟩ := x6 q hq
      dsimp only at w1 w2 w3 w4
      have gl := gX_L 600 0 0 rfl (by decide) hf.1 q (by omega) (by have := hf.2; unfold FX at this; omega)
      have g1 := gLine_1 gl
      have eE1 := eE_rE hz (by omega) g1.1
      have eB1 : eLb (KF 1 b n) (VF b n) (gE (KF 1 b n) (VF b n) (lnP (KF 1 b n) (lpos (KF 1 b n) (VF b n) q))).2 = rLb (KF 1 b n) (VF b n) (gE (KF 1 b n) (VF b n) (lnP (KF 1 b n) (lpos (KF 1 b n) (VF b n) q))).2 := by
        unfold eLb rLb
        by_cases d : KF 1 b n (gE (KF 1 b n) (VF b n) (lnP (KF 1 b n) (lpos (KF 1 b n) (VF b n) q))).2 = 1002
        · rw [if_pos d, if_pos d, eB_rB hz (by omega) (g1.2 d)]
        · rw [if_neg d, if_neg d]
      have eln : LTOT (KF 1 b n) (VF b n) (q + 1) = LTOT (KF 1 b n) (VF b n) q ++ (eE (KF 1 b n) (VF b n) (lnP (KF 1 b n) (lpos (KF 1 b n) (VF b n) q)) ++ eLb (KF 1 b n) (VF b n) (gE (KF 1 b n) (VF b n) (lnP (KF 1 b n) (lpos (KF 1 b n) (VF b n) q))).2) := rfl
      obtain ⟨rr, er⟩ := LTOT_p (K := KF 1 b n) (V := VF b n) (q := q + 1) (v'.toNat - (q + 1))
      rw [show q + 1 + (v'.toNat - (q + 1)) = v'.toNat by omega] at er
      rw [er] at x8
      have p1 := (lst_p x8).1
      have x7' := x7
      rw [er, List.length_append] at x7'
      rw [eln] at p1
      have p2 := lst_p p1
      have p3 := lst_p p2.2
      have l3 : ((LTOT (KF 1 b n) (VF b n) (q + 1)).length : Int) = ((LTOT (KF 1 b n) (VF b n) q).length : Int) + (((eE (KF 1 b n) (VF b n) (lnP (KF 1 b n) (lpos (KF 1 b n) (VF b n) q))).length : Int) + ((eLb (KF 1 b n) (VF b n) (gE (KF 1 b n) (VF b n) (lnP (KF 1 b n) (lpos (KF 1 b n) (VF b n) q))).2).length : Int)) := by
        rw [eln, List.length_append, List.length_append]; omega
      have lq : lnP (KF 1 b n) (lpos (KF 1 b n) (VF b n) q) ≤ n := by
        have gm := gE_M (K := KF 1 b n) (V := VF b n) (i := lnP (KF 1 b n) (lpos (KF 1 b n) (VF b n) q)) hz g1.1
        omega
      have gmE := gE_M (K := KF 1 b n) (V := VF b n) (i := lnP (KF 1 b n) (lpos (KF 1 b n) (VF b n) q)) hz g1.1
      unfold LWR
      rw [show 64 * k.toNat + 4 * q + 1 = 64 * k.toNat + (4 * q + 1) by omega, show 64 * k.toNat + 4 * q + 2 = 64 * k.toNat + (4 * q + 2) by omega, show 64 * k.toNat + 4 * q + 3 = 64 * k.toNat + (4 * q + 3) by omega, w1, w2, w3, w4, r1, r2, r3, r4]
      refine ⟨rfl, ⟨by omega, by omega, by omega, by omega⟩, ?_, ?_, fun gv => ⟨?_, fun d => ?_⟩, r7⟩
      · rw [r5, ← eE1]
        have e1 : (((LTOT (KF 1 b n) (VF b n) q).length : Int) + ((eE (KF 1 b n) (VF b n) (lnP (KF 1 b n) (lpos (KF 1 b n) (VF b n) q))).length : Int) - ((LTOT (KF 1 b n) (VF b n) q).length : Int)).toNat = (eE (KF 1 b n) (VF b n) (lnP (KF 1 b n) (lpos (KF 1 b n) (VF b n) q))).length := by omega
        rw [e1, Int.toNat_natCast]
        exact p3.1
      · rw [r6, ← eB1]
        have e1 : (((LTOT (KF 1 b n) (VF b n) (q + 1)).length : Int) - (((LTOT (KF 1 b n) (VF b n) q).length : Int) + ((eE (KF 1 b n) (VF b n) (lnP (KF 1 b n) (lpos (KF 1 b n) (VF b n) q))).length : Int))).toNat = (eLb (KF 1 b n) (VF b n) (gE (KF 1 b n) (VF b n) (lnP (KF 1 b n) (lpos (KF 1 b n) (VF b n) q))).2).length := by omega
        have e2 : 500 * k.toNat + (((LTOT (KF 1 b n) (VF b n) q).length : Int) + ((eE (KF 1 b n) (VF b n) (lnP (KF 1 b n) (lpos (KF 1 b n) (VF b n) q))).length : Int)).toNat = 500 * k.toNat + (LTOT (KF 1 b n) (VF b n) q).length + (eE (KF 1 b n) (VF b n) (lnP (KF 1 b n) (lpos (KF 1 b n) (VF b n) q))).length := by omega
        rw [e1, e2]
        exact p3.2
      · rw [r5]; exact BD_m (BD_E hz (by omega) hv lq g1.1) (by decide)
      · rw [r6]
        unfold rLb
        by_cases z : KF 1 b n (gE (KF 1 b n) (VF b n) (lnP (KF 1 b n) (lpos (KF 1 b n) (VF b n) q))).2 = 1002
        · rw [if_pos z]
          have lt := KZ_lt (i := (gE (KF 1 b n) (VF b n) (lnP (KF 1 b n) (lpos (KF 1 b n) (VF b n) q))).2) hz (by omega)
          exact BD_m (BD_B hz (by omega) hv (by omega) (g1.2 z)) (by decide)
        · exfalso
          have q0 : exl (SG f1 k.toNat) md.toNat (ce - md).toNat = [] := by rw [r6]; unfold rLb; rw [if_neg z]
          have := exl_n q0
          omega
    · have z := h m hm
      have e0 : f1 (974 + m) = f (974 + m) := y2 _ (by omega) (fun q hq => by omega) (by omega)
      rw [x3 m em, e0]
      refine ⟨z.1, fun q hq => ?_⟩
      have bb := MW_lb hM hm hq
      exact LWR_k (z.2 q hq) hm bb.1 bb.2 (fun j a c => x4 j (by omega)) (fun j a c => x5 j (by omega)) (fun w hw => y2 _ (by omega) (fun w' hw' => by omega) (by omega)) (fun j hj => y2 _ (by omega) (fun w' hw' => by omega) (by omega))
  · have x2 := x.2 c
    have y2 := y.2 c
    exact LWL_k h hM (fun j _ => (x2 j).1) (fun j _ => (x2 j).2.1) (fun j _ => (x2 j).2.2) y2
