/-! what is fed: the tape's bytes -/
def BYT (v : Int) (k : Nat) : Int := am_and (am_shr v (24 - 8 * (k : Int))) 255
theorem i2b_and (x : Int) : am_and (am_i2b x) 255 = am_and x 255 := by
  unfold am_and am_i2b
  rw [Int32.ofInt_toInt]
  congr 1
  apply Int32.toBitVec_inj.mp
  rw [Int32.toBitVec_and, Int32.toBitVec_and, Int8.toBitVec_toInt32, Int32.toBitVec_toInt8]
  apply BitVec.eq_of_getLsbD_eq
  intro i hi
  rw [BitVec.getLsbD_and, BitVec.getLsbD_and]
  by_cases c : i < 8
  · congr 1
    rw [BitVec.getLsbD_signExtend, if_pos c, BitVec.getLsbD_signExtend, if_pos hi]
    simp [c, hi]
  · have e : (Int32.ofInt 255).toBitVec.getLsbD i = false := by
      have : (Int32.ofInt 255).toBitVec = BitVec.ofNat 32 255 := by decide
      rw [this, BitVec.getLsbD_ofNat]
      have h2 : Nat.testBit 255 i = false := Nat.testBit_lt_two_pow (Nat.lt_of_lt_of_le (by decide : 255 < 2 ^ 8) (Nat.pow_le_pow_right (by decide) (by omega)))
      rw [h2, Bool.and_false]
    rw [e, Bool.and_false, Bool.and_false]
/-- what stands from n0 to m is new: F of its place; ahead of n0 all is as it was -/
def FDX (g g' : Nat → Int) (n0 m : Int) (F : Nat → Int) : Prop := ∀ j : Nat, (j : Int) < m → g' j = if (j : Int) < n0 then g j else F (j - n0.toNat)
theorem FDX_0 {g : Nat → Int} {n0 : Int} {F : Nat → Int} : FDX g g n0 n0 F := fun j hj => by rw [if_pos hj]
theorem FDX_s {g g1 g2 : Nat → Int} {n0 m m' v : Int} {F : Nat → Int} (h : FDX g g1 n0 m F) (h0 : 0 ≤ n0) (h1 : n0 ≤ m) (k1 : ∀ j : Nat, ¬ (j : Int) = m → g2 j = g1 j) (k2 : g2 m.toNat = v) (hv : v = F (m.toNat - n0.toNat)) (hm : m' = m + 1) : FDX g g2 n0 m' F := by
  subst hm
  intro j hj
  by_cases c : (j : Int) = m
  · rw [show j = m.toNat by omega, k2, if_neg (by omega), hv]
  · rw [k1 j c, h j (by omega)]
theorem FDX_c {g g1 g2 : Nat → Int} {n0 m m2 : Int} {k : Nat} {F F' G : Nat → Int} (h : FDX g g1 n0 m F) (h2 : FDX g1 g2 m m2 G) (e : m = n0 + k) (h0 : 0 ≤ n0) (hF : ∀ q, q < k → F' q = F q) (hG : ∀ q, F' (k + q) = G q) : FDX g g2 n0 m2 F' := by
  intro j hj
  rw [h2 j hj]
  by_cases c : (j : Int) < m
  · rw [if_pos c, h j c]
    by_cases c2 : (j : Int) < n0
    · rw [if_pos c2, if_pos c2]
    · rw [if_neg c2, if_neg c2, hF _ (by omega)]
  · rw [if_neg c, if_neg (by omega), show j - n0.toNat = k + (j - m.toNat) by omega, hG]
def FBY (a b c d e : Int) (q : Nat) : Int := if q < 4 then BYT a q else if q < 8 then BYT b (q - 4) else if q < 12 then BYT c (q - 8) else if q < 16 then BYT d (q - 12) else BYT e (q - 16)
theorem FDX_5 {g0 g1 g2 g3 g4 g5 : Nat → Int} {n0 m1 m2 m3 m4 m5 a b c d e : Int} (h1 : FDX g0 g1 n0 m1 (BYT a)) (h2 : FDX g1 g2 m1 m2 (BYT b)) (h3 : FDX g2 g3 m2 m3 (BYT c)) (h4 : FDX g3 g4 m3 m4 (BYT d)) (h5 : FDX g4 g5 m4 m5 (BYT e)) (h0 : 0 ≤ n0) (e1 : m1 = n0 + 4) (e2 : m2 = n0 + 8) (e3 : m3 = n0 + 12) (e4 : m4 = n0 + 16) : FDX g0 g5 n0 m5 (FBY a b c d e) := by
  have x2 : FDX g0 g2 n0 m2 (fun q => if q < 4 then BYT a q else BYT b (q - 4)) := FDX_c (k := 4) h1 h2 (by omega) h0 (fun q hq => by show (if _ then _ else _) = _; rw [if_pos hq]) (fun q => by show (if _ then _ else _) = _; rw [if_neg (by omega)]; congr 1; omega)
  have x3 : FDX g0 g3 n0 m3 (fun q => if q < 4 then BYT a q else if q < 8 then BYT b (q - 4) else BYT c (q - 8)) := FDX_c (k := 8) x2 h3 (by omega) h0 (fun q hq => by show (if _ then _ else if _ then _ else _) = (if _ then _ else _); rw [if_pos hq]) (fun q => by show (if _ then _ else if _ then _ else _) = _; rw [if_neg (by omega), if_neg (by omega)]; congr 1; omega)
  have x4 : FDX g0 g4 n0 m4 (fun q => if q < 4 then BYT a q else if q < 8 then BYT b (q - 4) else if q < 12 then BYT c (q - 8) else BYT d (q - 12)) := FDX_c (k := 12) x3 h4 (by omega) h0 (fun q hq => by show (if _ then _ else if _ then _ else if _ then _ else _) = (if _ then _ else if _ then _ else _); rw [if_pos hq]) (fun q => by show (if _ then _ else if _ then _ else if _ then _ else _) = _; rw [if_neg (by omega), if_neg (by omega), if_neg (by omega)]; congr 1; omega)
  exact FDX_c (k := 16) x4 h5 (by omega) h0 (fun q hq => by unfold FBY; show _ = (if _ then _ else if _ then _ else if _ then _ else _); rw [if_pos hq]) (fun q => by unfold FBY; rw [if_neg (by omega), if_neg (by omega), if_neg (by omega), if_neg (by omega)]; congr 1; omega)
/-- a byte that the class lays -/
theorem BYT_c {x v sh m n0 : Int} (hx : x = am_i2b (am_i2b (am_shr v sh))) (hs : sh = 24 - 8 * (m - n0)) (h : n0 ≤ m) (h0 : 0 ≤ n0) : am_and x 255 = BYT v (m.toNat - n0.toNat) := by
  rw [hx, i2b_and, i2b_and, hs]
  unfold BYT
  rw [show (24 - 8 * (m - n0)) = 24 - 8 * ((m.toNat - n0.toNat : Nat) : Int) by omega]
/-- a byte that the reference lays -/
theorem FBY_r {a b c d e v l sh m n0 : Int} (hl : 0 ≤ l ∧ l < 20) (hv : (l < 4 ∧ v = a) ∨ (4 ≤ l ∧ l < 8 ∧ v = b) ∨ (8 ≤ l ∧ l < 12 ∧ v = c) ∨ (12 ≤ l ∧ l < 16 ∧ v = d) ∨ (16 ≤ l ∧ v = e)) (hs : sh = 24 - 8 * (l % 4)) (hm : m = n0 + l) (h0 : 0 ≤ n0) : am_and (am_shr v sh) 255 = FBY a b c d e (m.toNat - n0.toNat) := by
  rw [show m.toNat - n0.toNat = l.toNat by omega]
  unfold FBY
  rcases hv with ⟨h1, h2⟩ | ⟨h1, h2, h3⟩ | ⟨h1, h2, h3⟩ | ⟨h1, h2, h3⟩ | ⟨h1, h2⟩
  · rw [if_pos (by omega), h2, hs]; unfold BYT; rw [show (24 - 8 * (l % 4)) = 24 - 8 * ((l.toNat : Nat) : Int) by omega]
  · rw [if_neg (by omega), if_pos (by omega), h3, hs]; unfold BYT; rw [show (24 - 8 * (l % 4)) = 24 - 8 * ((l.toNat - 4 : Nat) : Int) by omega]
  · rw [if_neg (by omega), if_neg (by omega), if_pos (by omega), h3, hs]; unfold BYT; rw [show (24 - 8 * (l % 4)) = 24 - 8 * ((l.toNat - 8 : Nat) : Int) by omega]
  · rw [if_neg (by omega), if_neg (by omega), if_neg (by omega), if_pos (by omega), h3, hs]; unfold BYT; rw [show (24 - 8 * (l % 4)) = 24 - 8 * ((l.toNat - 12 : Nat) : Int) by omega]
  · rw [if_neg (by omega), if_neg (by omega), if_neg (by omega), if_neg (by omega), h2, hs]; unfold BYT; rw [show (24 - 8 * (l % 4)) = 24 - 8 * ((l.toNat - 16 : Nat) : Int) by omega]
/-- the tapes are alike -/
def TPL (g r : Nat → Int) (n : Int) : Prop := ∀ j : Nat, (j : Int) < n → am_and (g j) 255 = r j
theorem TPL_0 {g r : Nat → Int} : TPL g r 0 := fun j hj => by omega
theorem TPL_z {g r : Nat → Int} {n : Int} (h : n = 0) : TPL g r n := fun j hj => by omega
theorem TPL_k {g g' r r' : Nat → Int} {n n' : Int} (h : TPL g r n) (hg : ∀ j : Nat, g' j = g j) (hr : ∀ j : Nat, r' j = r j) (hn : n' ≤ n) : TPL g' r' n' := fun j hj => by rw [hg, hr]; exact h j (by omega)
theorem TPL_f {g g' r r' : Nat → Int} {n n0 m m' : Int} {F : Nat → Int} (h : TPL g r n) (x : FDX (fun j => am_and (g j) 255) (fun j => am_and (g' j) 255) n m F) (y : FDX r r' n0 m' F) (e : n0 = n) (e2 : m' = m) : TPL g' r' m := by
  subst e; subst e2
  intro j hj
  have x1 := x j hj
  have y1 := y j hj
  dsimp only at x1
  rw [x1, y1]
  by_cases c : (j : Int) < n0
  · rw [if_pos c, if_pos c]; exact h j c
  · rw [if_neg c, if_neg c]
