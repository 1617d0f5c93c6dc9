theorem i32_of {a : Int} {n : Nat} (h : 0 ≤ a ∧ a < 2 ^ n) (hn : n ≤ 31) : (Int32.ofInt a).toBitVec.toNat = a.toNat ∧ a.toNat < 2 ^ n := by
  have h31 : (2:Int) ^ n ≤ 2 ^ 31 := by
    have := Nat.pow_le_pow_right (n := 2) (by decide) hn
    exact_mod_cast this
  have e31 : (2:Int) ^ 31 = 2147483648 := by decide
  refine ⟨?_, ?_⟩
  · show (BitVec.ofInt 32 a).toNat = a.toNat
    rw [BitVec.toNat_ofInt]
    have : a % ((2 ^ 32 : Nat) : Int) = a := Int.emod_eq_of_lt h.1 (by
      have : ((2 ^ 32 : Nat) : Int) = 4294967296 := by decide
      omega)
    rw [this]
  · have h2 := h.2
    have : (a.toNat : Int) < ((2 ^ n : Nat) : Int) := by
      rw [Int.toNat_of_nonneg h.1]; exact_mod_cast h2
    exact_mod_cast this
theorem nn_i32 {z : Int32} {n : Nat} (hn : n ≤ 31) (h : z.toBitVec.toNat < 2 ^ n) : 0 ≤ z.toInt ∧ z.toInt ≤ 2 ^ n - 1 := by
  have h31 : 2 ^ n ≤ 2 ^ 31 := Nat.pow_le_pow_right (n := 2) (by decide) hn
  have e : z.toInt = z.toBitVec.toNat := by
    show z.toBitVec.toInt = _
    exact BitVec.toInt_eq_toNat_of_lt (by omega)
  rw [e]
  have : ((z.toBitVec.toNat : Nat) : Int) < ((2 ^ n : Nat) : Int) := by exact_mod_cast h
  have e2 : ((2 ^ n : Nat) : Int) = 2 ^ n := by push_cast; rfl
  omega
theorem am_and_N {a b m : Int} {n : Nat} (ha : 0 ≤ a ∧ a ≤ m) (hb : 0 ≤ b ∧ b ≤ m) (hn : n ≤ 31) (hm : (2:Int) ^ n - 1 = m) : 0 ≤ am_and a b ∧ am_and a b ≤ m := by
  have ha : 0 ≤ a ∧ a < 2 ^ n := by omega
  have hb : 0 ≤ b ∧ b < 2 ^ n := by omega
  rw [← hm]
  refine nn_i32 hn ?_
  rw [Int32.toBitVec_and, BitVec.toNat_and]
  exact Nat.lt_of_le_of_lt Nat.and_le_left (by rw [(i32_of ha hn).1]; exact (i32_of ha hn).2)
theorem am_or_N {a b m : Int} {n : Nat} (ha : 0 ≤ a ∧ a ≤ m) (hb : 0 ≤ b ∧ b ≤ m) (hn : n ≤ 31) (hm : (2:Int) ^ n - 1 = m) : 0 ≤ am_or a b ∧ am_or a b ≤ m := by
  have ha : 0 ≤ a ∧ a < 2 ^ n := by omega
  have hb : 0 ≤ b ∧ b < 2 ^ n := by omega
  rw [← hm]
  refine nn_i32 hn ?_
  rw [Int32.toBitVec_or, BitVec.toNat_or, (i32_of ha hn).1, (i32_of hb hn).1]
  exact Nat.or_lt_two_pow (i32_of ha hn).2 (i32_of hb hn).2
theorem am_xor_N {a b m : Int} {n : Nat} (ha : 0 ≤ a ∧ a ≤ m) (hb : 0 ≤ b ∧ b ≤ m) (hn : n ≤ 31) (hm : (2:Int) ^ n - 1 = m) : 0 ≤ am_xor a b ∧ am_xor a b ≤ m := by
  have ha : 0 ≤ a ∧ a < 2 ^ n := by omega
  have hb : 0 ≤ b ∧ b < 2 ^ n := by omega
  rw [← hm]
  refine nn_i32 hn ?_
  rw [Int32.toBitVec_xor, BitVec.toNat_xor, (i32_of ha hn).1, (i32_of hb hn).1]
  exact Nat.xor_lt_two_pow (i32_of ha hn).2 (i32_of hb hn).2
theorem shl1_R {k : Int} (h : 0 ≤ k ∧ k ≤ 30) : 1 ≤ am_shl 1 k ∧ am_shl 1 k ≤ 1073741824 := by
  have : ∀ j : Fin 31, 1 ≤ am_shl 1 (j.val : Int) ∧ am_shl 1 (j.val : Int) ≤ 1073741824 := by decide +kernel
  have e : ((k.toNat : Nat) : Int) = k := Int.toNat_of_nonneg h.1
  have := this ⟨k.toNat, by omega⟩
  rw [e] at this
  exact this
theorem shr_N {a b : Int} (ha : 0 ≤ a ∧ a ≤ 2147483647) : 0 ≤ am_shr a b ∧ am_shr a b ≤ a := by
  unfold am_shr
  have h0 : (2:Int)^31 = 2147483648 := by decide
  have h1 : (Int32.ofInt a).toBitVec.toNat = a.toNat := (i32_of (n := 31) ⟨ha.1, by omega⟩ (by decide)).1
  have e : (Int32.ofInt a >>> (Int32.ofInt b &&& 31)).toBitVec = (Int32.ofInt a).toBitVec.sshiftRight' ((Int32.ofInt b &&& 31).toBitVec.smod 32) := Int32.toBitVec_shiftRight _ _
  have hm : (Int32.ofInt a).toBitVec.msb = false := by
    rw [BitVec.msb_eq_decide, h1]
    simp
    omega
  have e2 : (Int32.ofInt a >>> (Int32.ofInt b &&& 31)).toBitVec.toNat = a.toNat >>> ((Int32.ofInt b &&& 31).toBitVec.smod 32).toNat := by
    rw [e, BitVec.sshiftRight_eq', BitVec.sshiftRight_eq_of_msb_false hm, BitVec.toNat_ushiftRight, h1]
  have h3 : (Int32.ofInt a >>> (Int32.ofInt b &&& 31)).toBitVec.toNat ≤ a.toNat := by
    rw [e2, Nat.shiftRight_eq_div_pow]
    exact Nat.div_le_self _ _
  have h4 := nat_i32 (c := a.toNat) (by omega) h3
  omega
theorem u2_eq {dt : Nat → Nat → Int} {k j : Nat} {x : Int} : u2 dt k j x k j = x := by unfold u2; rw [if_pos ⟨rfl, rfl⟩]
theorem u2_ne {dt : Nat → Nat → Int} {k j a b : Nat} {x : Int} (h : ¬ (a = k ∧ b = j)) : u2 dt k j x a b = dt a b := by unfold u2; rw [if_neg h]
theorem s_lcgw {X : am_X} {L : am_L} {w : am_W} {tg : List Nat} {cv a b a' b' : Int} {rest : List AV} (ha : wl a = a') (hb : wl b = b') (h : b' < a') : am_smp X .lcmp tg cv L (.inr (.inl b) :: .inr (.inl a) :: rest) w = some (L, .inl 1 :: rest, w) := by
  subst ha; subst hb
  simp only [am_smp, if_pos h]
theorem s_lcew {X : am_X} {L : am_L} {w : am_W} {tg : List Nat} {cv a b a' b' : Int} {rest : List AV} (ha : wl a = a') (hb : wl b = b') (h : a' = b') : am_smp X .lcmp tg cv L (.inr (.inl b) :: .inr (.inl a) :: rest) w = some (L, .inl 0 :: rest, w) := by
  subst ha; subst hb
  simp only [am_smp, if_neg (show ¬ wl b < wl a by omega), if_pos h]
theorem s_lclw {X : am_X} {L : am_L} {w : am_W} {tg : List Nat} {cv a b a' b' : Int} {rest : List AV} (ha : wl a = a') (hb : wl b = b') (h : a' < b') : am_smp X .lcmp tg cv L (.inr (.inl b) :: .inr (.inl a) :: rest) w = some (L, .inl (-1) :: rest, w) := by
  subst ha; subst hb
  simp only [am_smp, if_neg (show ¬ wl b < wl a by omega), if_neg (show ¬ wl a = wl b by omega)]
theorem shr31 (a : Int) : am_shr a 31 ≤ 0 := by
  unfold am_shr
  have h1 := i32_R (Int32.ofInt a)
  have e3 : ((Int32.ofInt 31 &&& 31).toBitVec.smod 32).toNat = 31 := by decide
  have e : (Int32.ofInt a >>> (Int32.ofInt 31 &&& 31)).toInt = (Int32.ofInt a).toInt / 2 ^ 31 := by
    show (Int32.ofInt a >>> (Int32.ofInt 31 &&& 31)).toBitVec.toInt = _
    rw [Int32.toBitVec_shiftRight, BitVec.sshiftRight_eq', BitVec.toInt_sshiftRight, e3, Int.shiftRight_eq_div_pow]
    rfl
  rw [e]
  have : ((2:Int) ^ 31) = 2147483648 := by decide
  omega
