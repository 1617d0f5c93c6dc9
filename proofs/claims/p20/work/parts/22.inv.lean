/-! the cells that the law makes, and between what their numbers lie -/
def SH : List am_Sh := [.inr (5, [some (some 1), some (some 18), none, some (some 35), some (some 43), some (some 57), some (some 71), some (some 75), some (some 76), some (some 77), some (some 78)]), .inr (0, [none, some (some 2), some (some 3), some (some 4), some (some 5), some (some 6), some (some 7), some (some 9), some (some 10), some (some 12), some (some 14), some (some 16)]), .inl (0, 192), .inl (0, 8), .inl (0, 256), .inl (0, 4), .inl (0, 2000), .inr (2, [none, none, some (some 8), none]), .inl (0, 60), .inl (0, 132), .inr (2, [none, none, some (some 11), none]), .inl (0, 160), .inr (2, [none, none, some (some 13), none]), .inl (0, 1800), .inr (2, [none, none, some (some 15), none]), .inl (0, 80), .inr (2, [none, none, some (some 17), none]), .inl (0, 40), .inr (0, [none, some (some 19), some (some 20), some (some 21), some (some 22), some (some 23), some (some 24), some (some 26), some (some 27), some (some 29), some (some 31), some (some 33)]), .inl (0, 192), .inl (0, 8), .inl (0, 256), .inl (0, 4), .inl (0, 2000), .inr (2, [none, none, some (some 25), none]), .inl (0, 60), .inl (0, 132), .inr (2, [none, none, some (some 28), none]), .inl (0, 160), .inr (2, [none, none, some (some 30), none]), .inl (0, 1800), .inr (2, [none, none, some (some 32), none]), .inl (0, 80), .inr (2, [none, none, some (some 34), none]), .inl (0, 40), .inr (1, [some (some 36), none, none, none, some (some 37), some (some 38), some (some 39), none, none, some (some 40), some (some 41), some (some 42), none]), .inl (1, 500), .inl (0, 501), .inl (0, 501), .inl (0, 501), .inl (0, 24), .inl (0, 64), .inl (0, 500), .inr (4, [some (some 44), some (some 45), some (some 46), some (some 47), some (some 48), some (some 49), some (some 50), some (some 51), some (some 52), some (some 53), some (some 54), some (some 55), some (some 56)]), .inl (0, 4), .inl (0, 4), .inl (0, 8), .inl (0, 3), .inl (0, 3), .inl (0, 3), .inl (0, 3), .inl (0, 6), .inl (0, 12), .inl (0, 12), .inl (0, 12), .inl (0, 12), .inl (0, 48), .inr (4, [some (some 58), some (some 59), some (some 60), some (some 61), some (some 62), some (some 63), some (some 64), some (some 65), some (some 66), some (some 67), some (some 68), some (some 69), some (some 70)]), .inl (0, 4), .inl (0, 4), .inl (0, 8), .inl (0, 3), .inl (0, 3), .inl (0, 3), .inl (0, 3), .inl (0, 6), .inl (0, 12), .inl (0, 12), .inl (0, 12), .inl (0, 12), .inl (0, 48), .inr (3, [some (some 72), none, some (some 73), some (some 74)]), .inl (0, 9), .inl (0, 6), .inl (0, 64), .inl (0, 8), .inl (0, 28), .inl (0, 5), .inl (0, 4), .inr (6, [some (some 80), some (some 81), none, some (some 82), some (some 83), some (some 84), some (some 85), some (some 86), some (some 87), none, none, none, none, none, none, none, none, none, none, none, none, none, some (some 88), some (some 89), some (some 90), some (some 91), some (some 92), some (some 93), some (some 94), some (some 95), some (some 96), some (some 97), some (some 98), some (some 99), some (some 100), some (some 101), some (some 102), some (some 103), some (some 104), none, none]), .inl (0, 7460), .inl (0, 7460), .inl (0, 120), .inl (0, 64), .inl (0, 1020), .inl (0, 500), .inl (0, 520), .inl (0, 7), .inl (3, 4), .inl (3, 8), .inl (3, 12), .inl (0, 4), .inl (0, 3), .inl (0, 3), .inl (0, 3), .inl (0, 3), .inl (0, 12), .inl (0, 12), .inl (0, 12), .inl (0, 48), .inl (0, 6), .inl (0, 64), .inl (2, 8), .inl (0, 4), .inl (2, 42)]
def LO (k j : Nat) : Int := match k with
  | 0 => (match j with | 2 => 0 | _ => -2147483648)
  | 7 => (match j with | 3 => 0 | _ => -2147483648)
  | 10 => (match j with | 3 => 0 | _ => -2147483648)
  | 12 => (match j with | 3 => 0 | _ => -2147483648)
  | 14 => (match j with | 3 => 0 | _ => -2147483648)
  | 16 => (match j with | 3 => 0 | _ => -2147483648)
  | 24 => (match j with | 3 => 0 | _ => -2147483648)
  | 27 => (match j with | 3 => 0 | _ => -2147483648)
  | 29 => (match j with | 3 => 0 | _ => -2147483648)
  | 31 => (match j with | 3 => 0 | _ => -2147483648)
  | 33 => (match j with | 3 => 0 | _ => -2147483648)
  | 35 => (match j with | 1 => 0 | 7 => 0 | 12 => 0 | _ => -2147483648)
  | 36 => -128
  | 37 => 0
  | 71 => (match j with | 1 => 0 | _ => -2147483648)
  | 72 => 0
  | 79 => (match j with | 2 => 0 | 9 => 0 | 10 => 0 | 11 => 0 | 12 => 0 | 13 => 0 | 15 => 0 | 16 => 0 | 20 => 0 | _ => -2147483648)
  | 85 => 0
  | 88 => 0
  | 89 => 0
  | 90 => 0
  | 102 => -9223372036854775808
  | 104 => -9223372036854775808
  | _ => -2147483648
def HI (k j : Nat) : Int := match k with
  | 0 => (match j with | 2 => 1 | _ => 2147483647)
  | 7 => (match j with | 3 => 12 | _ => 2147483647)
  | 10 => (match j with | 3 => 40 | _ => 2147483647)
  | 12 => (match j with | 3 => 300 | _ => 2147483647)
  | 14 => (match j with | 3 => 40 | _ => 2147483647)
  | 16 => (match j with | 3 => 20 | _ => 2147483647)
  | 24 => (match j with | 3 => 12 | _ => 2147483647)
  | 27 => (match j with | 3 => 40 | _ => 2147483647)
  | 29 => (match j with | 3 => 300 | _ => 2147483647)
  | 31 => (match j with | 3 => 40 | _ => 2147483647)
  | 33 => (match j with | 3 => 20 | _ => 2147483647)
  | 35 => (match j with | 1 => 500 | 7 => 501 | 12 => 500 | _ => 2147483647)
  | 36 => 127
  | 37 => 1100
  | 71 => (match j with | 1 => 792 | _ => 2147483647)
  | 72 => 100
  | 79 => (match j with | 2 => 1 | 9 => 1 | 10 => 24 | 11 => 510 | 12 => 500 | 13 => 501 | 15 => 500 | 16 => 9999 | 20 => 8 | _ => 2147483647)
  | 85 => 255
  | 88 => 1
  | 89 => 1
  | 90 => 1
  | 102 => 9223372036854775807
  | 104 => 9223372036854775807
  | _ => 2147483647
def CK (k j : Nat) : Bool := match k with
  | 7 => (match j with | 0 => true | 1 => true | _ => false)
  | 10 => (match j with | 0 => true | 1 => true | _ => false)
  | 12 => (match j with | 0 => true | 1 => true | _ => false)
  | 14 => (match j with | 0 => true | 1 => true | _ => false)
  | 16 => (match j with | 0 => true | 1 => true | _ => false)
  | 24 => (match j with | 0 => true | 1 => true | _ => false)
  | 27 => (match j with | 0 => true | 1 => true | _ => false)
  | 29 => (match j with | 0 => true | 1 => true | _ => false)
  | 31 => (match j with | 0 => true | 1 => true | _ => false)
  | 33 => (match j with | 0 => true | 1 => true | _ => false)
  | _ => false
def CV (k j : Nat) : Int := match k with
  | 7 => (match j with | 0 => 12 | _ => 5)
  | 10 => (match j with | 0 => 40 | _ => 4)
  | 12 => (match j with | 0 => 300 | _ => 6)
  | 14 => (match j with | 0 => 40 | _ => 2)
  | 16 => (match j with | 0 => 20 | _ => 2)
  | 24 => (match j with | 0 => 12 | _ => 5)
  | 27 => (match j with | 0 => 40 | _ => 4)
  | 29 => (match j with | 0 => 300 | _ => 6)
  | 31 => (match j with | 0 => 40 | _ => 2)
  | 33 => (match j with | 0 => 20 | _ => 2)
  | _ => 0
def InvC (dt : Nat → Nat → Int) : Prop := (∀ k j, LO k j ≤ dt k j ∧ dt k j ≤ HI k j) ∧ ∀ k j, CK k j = true → dt k j = CV k j
theorem InvC_get {dt : Nat → Nat → Int} (h : InvC dt) (k j : Nat) {lo hi : Int} (h1 : LO k j = lo) (h2 : HI k j = hi) : lo ≤ dt k j ∧ dt k j ≤ hi := by
  subst h1; subst h2; exact h.1 k j
theorem InvC_u2 {dt : Nat → Nat → Int} (h : InvC dt) {k j : Nat} {x lo hi : Int} (h1 : LO k j = lo) (h2 : HI k j = hi) (h3 : CK k j = false) (h4 : lo ≤ x) (h5 : x ≤ hi) : InvC (u2 dt k j x) := by
  subst h1; subst h2
  refine ⟨fun a b => ?_, fun a b hc => ?_⟩
  · unfold u2
    split
    · rename_i g; obtain ⟨rfl, rfl⟩ := g; exact ⟨h4, h5⟩
    · exact h.1 a b
  · unfold u2
    split
    · rename_i g; obtain ⟨rfl, rfl⟩ := g; rw [h3] at hc; cases hc
    · exact h.2 a b hc
theorem InvC_cp {dt : Nat → Nat → Int} (h : InvC dt) {r0 r1 sp dp n : Nat} (h1 : ∀ i j, LO r1 j = LO r0 i) (h2 : ∀ i j, HI r1 j = HI r0 i) (h3 : ∀ j, CK r1 j = false) : InvC (am_cp dt r0 r1 sp dp n) := by
  refine ⟨fun a b => ?_, fun a b hc => ?_⟩
  · unfold am_cp
    split
    · rename_i g
      obtain ⟨rfl, -⟩ := g
      rw [h1 (sp + (b - dp)) b, h2 (sp + (b - dp)) b]
      exact h.1 _ _
    · exact h.1 a b
  · unfold am_cp
    split
    · rename_i g
      obtain ⟨rfl, -⟩ := g
      rw [h3] at hc; cases hc
    · exact h.2 a b hc
/-- outside of these cells all is as it was -/
def Fr (S : List Nat) (d0 d1 : Nat → Nat → Int) : Prop := ∀ k, k ∉ S → ∀ j, d1 k j = d0 k j
theorem Fr_refl {S : List Nat} {d0 : Nat → Nat → Int} : Fr S d0 d0 := fun _ _ _ => rfl
theorem Fr_tr {S S' : List Nat} {d0 d1 d2 : Nat → Nat → Int} (h : Fr S d0 d1) (h' : Fr S' d1 d2) (hs : ∀ k ∈ S', k ∈ S) : Fr S d0 d2 := fun k hk j => (h' k (fun z => hk (hs k z)) j).trans (h k hk j)
theorem Fr_u2 {S : List Nat} {d0 d1 : Nat → Nat → Int} {k j : Nat} {x : Int} (h : Fr S d0 d1) (hs : k ∈ S) : Fr S d0 (u2 d1 k j x) := fun a ha b => by
  unfold u2
  rw [if_neg (fun z => ha (by rw [z.1]; exact hs))]
  exact h a ha b
theorem Fr_cp {S : List Nat} {d0 d1 : Nat → Nat → Int} {r0 r1 sp dp n : Nat} (h : Fr S d0 d1) (hs : r1 ∈ S) : Fr S d0 (am_cp d1 r0 r1 sp dp n) := fun a ha b => by
  unfold am_cp
  rw [if_neg (fun z => ha (by rw [z.1]; exact hs))]
  exact h a ha b
theorem wr_RR (x : Int) : -2147483648 ≤ wr x ∧ wr x ≤ 2147483647 := ⟨wr_lo x, by have := wr_hi x; omega⟩
theorem wl_RR (x : Int) : -9223372036854775808 ≤ wl x ∧ wl x ≤ 9223372036854775807 := by unfold wl; omega
theorem i32_R (z : Int32) : -2147483648 ≤ z.toInt ∧ z.toInt ≤ 2147483647 := by
  have : z.toInt = wr z.toInt := by rw [← n_toInt, n_of]
  rw [this]; exact wr_RR _
theorem am_and_R {a b : Int} : -2147483648 ≤ am_and a b ∧ am_and a b ≤ 2147483647 := i32_R _
theorem am_or_R {a b : Int} : -2147483648 ≤ am_or a b ∧ am_or a b ≤ 2147483647 := i32_R _
theorem am_xor_R {a b : Int} : -2147483648 ≤ am_xor a b ∧ am_xor a b ≤ 2147483647 := i32_R _
theorem am_shl_R {a b : Int} : -2147483648 ≤ am_shl a b ∧ am_shl a b ≤ 2147483647 := i32_R _
theorem am_shr_R {a b : Int} : -2147483648 ≤ am_shr a b ∧ am_shr a b ≤ 2147483647 := i32_R _
theorem am_ushr_R {a b : Int} : -2147483648 ≤ am_ushr a b ∧ am_ushr a b ≤ 2147483647 := i32_R _
theorem nat_i32 {z : Int32} {c : Nat} (hc : c < 2147483648) (h : z.toBitVec.toNat ≤ c) : 0 ≤ z.toInt ∧ z.toInt ≤ c := by
  have e : z.toInt = z.toBitVec.toNat := by
    show z.toBitVec.toInt = _
    exact BitVec.toInt_eq_toNat_of_lt (by omega)
  rw [e]
  omega
theorem and_cR (z : Int32) (c : Nat) (hc : c < 2147483648) : 0 ≤ (z &&& Int32.ofNat c).toInt ∧ (z &&& Int32.ofNat c).toInt ≤ c := by
  refine nat_i32 hc ?_
  rw [Int32.toBitVec_and, BitVec.toNat_and]
  have : (Int32.ofNat c).toBitVec.toNat = c := by
    show (BitVec.ofNat 32 c).toNat = c
    rw [BitVec.toNat_ofNat]; omega
  rw [this]
  exact Nat.and_le_right

theorem and_R1 {a : Int} : 0 ≤ am_and a 1 ∧ am_and a 1 ≤ 1 := and_cR (Int32.ofInt a) 1 (by decide)
theorem and_R3 {a : Int} : 0 ≤ am_and a 3 ∧ am_and a 3 ≤ 3 := and_cR (Int32.ofInt a) 3 (by decide)
theorem and_R15 {a : Int} : 0 ≤ am_and a 15 ∧ am_and a 15 ≤ 15 := and_cR (Int32.ofInt a) 15 (by decide)
theorem and_R31 {a : Int} : 0 ≤ am_and a 31 ∧ am_and a 31 ≤ 31 := and_cR (Int32.ofInt a) 31 (by decide)
theorem and_R63 {a : Int} : 0 ≤ am_and a 63 ∧ am_and a 63 ≤ 63 := and_cR (Int32.ofInt a) 63 (by decide)
theorem and_R255 {a : Int} : 0 ≤ am_and a 255 ∧ am_and a 255 ≤ 255 := and_cR (Int32.ofInt a) 255 (by decide)
theorem ushr8_R {a : Int} : 0 ≤ am_ushr a 8 ∧ am_ushr a 8 ≤ 16777215 := by
  unfold am_ushr
  refine nat_i32 (c := 16777215) (by decide) ?_
  have e : ((Int32.ofInt 8).toUInt32 &&& Int32.toUInt32 31) = 8 := by decide
  rw [e]
  show ((Int32.ofInt a).toUInt32 >>> 8).toBitVec.toNat ≤ _
  have := (Int32.ofInt a).toUInt32.toNat_lt
  rw [show ((Int32.ofInt a).toUInt32 >>> 8).toBitVec.toNat = ((Int32.ofInt a).toUInt32 >>> 8).toNat from rfl, UInt32.toNat_shiftRight]
  rw [show (8 : UInt32).toNat % 32 = 8 from rfl, Nat.shiftRight_eq_div_pow]
  omega
theorem i2c_R (x : Int) : 0 ≤ am_i2c x ∧ am_i2c x ≤ 65535 := by
  unfold am_i2c
  refine nat_i32 (c := 65535) (by decide) ?_
  show ((Int32.ofInt x).toUInt32 % 65536).toNat ≤ 65535
  rw [UInt32.toNat_mod]
  have : (65536 : UInt32).toNat = 65536 := rfl
  rw [this]
  omega
theorem i2b_R (x : Int) : -128 ≤ am_i2b x ∧ am_i2b x ≤ 127 := by
  unfold am_i2b
  have e : (Int32.ofInt x).toInt8.toInt32.toInt = (Int32.ofInt x).toInt8.toInt := Int8.toInt_toInt32 _
  rw [e]
  have h1 := Int8.le_toInt (Int32.ofInt x).toInt8
  have h2 := Int8.toInt_lt (Int32.ofInt x).toInt8
  omega
theorem div_R {a b : Int} (h : 0 ≤ a) (hb : 0 < b) : 0 ≤ a / b ∧ a / b ≤ a := ⟨Int.ediv_nonneg h (by omega), Int.ediv_le_self b h⟩
theorem mod_R {a b : Int} (hb : 0 < b) : 0 ≤ a % b ∧ a % b < b := ⟨Int.emod_nonneg a (by omega), Int.emod_lt_of_pos a hb⟩
theorem sby_R (i j : Nat) : 0 ≤ (am_Sby.getD i []).getD j 0 ∧ (am_Sby.getD i []).getD j 0 ≤ 127 := by
  have h : ∀ l ∈ am_Sby, ∀ x ∈ l, (0:Int) ≤ x ∧ x ≤ 127 := by decide +kernel
  rw [List.getD_eq_getElem?_getD, List.getD_eq_getElem?_getD]
  cases hi : am_Sby[i]? with
  | none =>
    show 0 ≤ (([] : List Int)[j]?).getD 0 ∧ (([] : List Int)[j]?).getD 0 ≤ 127
    simp
  | some l =>
    show 0 ≤ (l[j]?).getD 0 ∧ (l[j]?).getD 0 ≤ 127
    cases hj : l[j]? with
    | none => exact ⟨by decide, by decide⟩
    | some x => exact h l (List.mem_of_getElem? hi) x (List.mem_of_getElem? hj)
theorem lea_R (j : Nat) : 0 ≤ ([0, 100, 300, 600] : List Int).getD j 0 ∧ ([0, 100, 300, 600] : List Int).getD j 0 ≤ 600 := by
  match j with
  | 0 => decide
  | 1 => decide
  | 2 => decide
  | 3 => decide
  | n + 4 =>
    show (0 : Int) ≤ 0 ∧ (0 : Int) ≤ 600
    decide
theorem tdiv_R {a b : Int} (hb : 0 < b ∧ b ≤ 2147483647) : -2147483648 ≤ (wr a).tdiv (wr b) ∧ (wr a).tdiv (wr b) ≤ 2147483647 := by
  have e : wr b = b := wr_R ⟨by omega, hb.2⟩
  have h := wr_RR a
  rw [e]
  rcases Int.le_total 0 (wr a) with g | g
  · rw [Int.tdiv_eq_ediv_of_nonneg g]
    have := div_R g hb.1
    omega
  · have e2 : (wr a).tdiv b = -((-(wr a)) / b) := by
      rw [← Int.tdiv_eq_ediv_of_nonneg (by omega : 0 ≤ -(wr a)), Int.neg_tdiv, Int.neg_neg]
    rw [e2]
    have := div_R (a := -(wr a)) (by omega) hb.1
    omega

