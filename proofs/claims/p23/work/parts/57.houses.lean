/-! HOUSES: their shares, joined, apart -/
def AB (x : Int) : Int := if 0 ≤ x then x else -x
theorem AB_sq {a x : Int} : (a * AB x) * AB x = (a * x) * x := by
  unfold AB
  split
  · rfl
  · rw [show a * -x = -(a * x) from Int.mul_neg a x, Int.neg_mul_neg]
/-- the whole root of 1 .. 999 -/
def RT (n : Int) : Int := (((List.range 31).filter (fun r => Nat.ble ((r + 1) * (r + 1)) n.toNat)).length : Int)
theorem RT_u {n v : Int} (hn : 1 ≤ n ∧ n ≤ 999) (hv : 0 ≤ v ∧ v ≤ 31) (h1 : v * v ≤ n) (h2 : n < (v + 1) * (v + 1)) : v = RT n := by
  have key : ∀ a : Fin 1000, ∀ b : Fin 32, b.val * b.val ≤ a.val → a.val < (b.val + 1) * (b.val + 1) → (b.val : Int) = RT (a.val : Int) := by decide +kernel
  have e1 : ((n.toNat : Nat) : Int) = n := Int.toNat_of_nonneg (by omega)
  have e2 : ((v.toNat : Nat) : Int) = v := Int.toNat_of_nonneg (by omega)
  have g1 : v.toNat * v.toNat ≤ n.toNat := by
    rw [← e1, ← e2] at h1; exact_mod_cast h1
  have g2 : n.toNat < (v.toNat + 1) * (v.toNat + 1) := by
    rw [← e1, ← e2] at h2; exact_mod_cast h2
  have z := key ⟨n.toNat, by omega⟩ ⟨v.toNat, by omega⟩ g1 g2
  rw [e1, e2] at z
  exact z
def SHc (g : Nat → Int) (i : Int) : Int := (1000 * g ((i * 2) + 1).toNat) / g ((i * 2) + 0).toNat
def SNc (g : Nat → Int) : Nat → Int
  | 0 => 0
  | i + 1 => (SNc g i) + g ((((i : Nat) : Int) * 2) + 0).toNat
theorem SNc_s {g : Nat → Int} {i : Int} (h : 0 ≤ i) : SNc g (i + 1).toNat = (SNc g i.toNat) + g ((i * 2) + 0).toNat := by
  obtain ⟨n, rfl⟩ := Int.eq_ofNat_of_zero_le h
  rfl
def SKc (g : Nat → Int) : Nat → Int
  | 0 => 0
  | i + 1 => (SKc g i) + g ((((i : Nat) : Int) * 2) + 1).toNat
theorem SKc_s {g : Nat → Int} {i : Int} (h : 0 ≤ i) : SKc g (i + 1).toNat = (SKc g i.toNat) + g ((i * 2) + 1).toNat := by
  obtain ⟨n, rfl⟩ := Int.eq_ofNat_of_zero_le h
  rfl
def FAc (g : Nat → Int) (m : Int) : Nat → Int
  | 0 => 0
  | i + 1 => (FAc g m i) + ((g ((((i : Nat) : Int) * 2) + 0).toNat * (SHc g ((i : Nat) : Int) - m)) * (SHc g ((i : Nat) : Int) - m))
theorem FAc_s {g : Nat → Int} {m : Int} {i : Int} (h : 0 ≤ i) : FAc g m (i + 1).toNat = (FAc g m i.toNat) + ((g ((i * 2) + 0).toNat * (SHc g i - m)) * (SHc g i - m)) := by
  obtain ⟨n, rfl⟩ := Int.eq_ofNat_of_zero_le h
  rfl
def OFc (g : Nat → Int) (m : Int) : Nat → Int
  | 0 => 0
  | i + 1 => am_or (OFc g m i) (if 1000 / RT (g ((((i : Nat) : Int) * 2) + 0).toNat) < AB (SHc g ((i : Nat) : Int) - m) then am_shl 1 ((i : Nat) : Int) else 0)
theorem OFc_s {g : Nat → Int} {m : Int} {i : Int} (h : 0 ≤ i) : OFc g m (i + 1).toNat = am_or (OFc g m i.toNat) (if 1000 / RT (g ((i * 2) + 0).toNat) < AB (SHc g i - m) then am_shl 1 i else 0) := by
  obtain ⟨n, rfl⟩ := Int.eq_ofNat_of_zero_le h
  rfl
def HVc (g : Nat → Int) : Nat → Int
  | 0 => 0
  | i + 1 => am_or (HVc g i) (if 500 ≤ SHc g ((i : Nat) : Int) then am_shl 1 ((i : Nat) : Int) else 0)
theorem HVc_s {g : Nat → Int} {i : Int} (h : 0 ≤ i) : HVc g (i + 1).toNat = am_or (HVc g i.toNat) (if 500 ≤ SHc g i then am_shl 1 i else 0) := by
  obtain ⟨n, rfl⟩ := Int.eq_ofNat_of_zero_le h
  rfl
def JNc (g : Nat → Int) (n : Int) : Int := if SNc g n.toNat = 0 then -1 else (1000 * SKc g n.toNat) / SNc g n.toNat
def FFc (g : Nat → Int) (n : Int) : Int := (wl (FAc g (JNc g n) n.toNat)).tdiv (wl 1000)
def HSc (g : Nat → Int) (n k : Int) : Int := if 10 ≤ k ∧ k < 10 + n then SHc g (k - 10) else if k = 0 then JNc g n else if k = 1 then FFc g n else if k = 2 then OFc g (JNc g n) n.toNat else if k = 3 then HVc g n.toNat else -1
def SHr (f : Nat → Int) (i : Int) : Int := (1000 * f ((7420 + (2 * i)) + 1).toNat) / f (7420 + (2 * i)).toNat
def SNr (f : Nat → Int) : Nat → Int
  | 0 => 0
  | i + 1 => (SNr f i) + f (7420 + (2 * ((i : Nat) : Int))).toNat
theorem SNr_s {f : Nat → Int} {i : Int} (h : 0 ≤ i) : SNr f (i + 1).toNat = (SNr f i.toNat) + f (7420 + (2 * i)).toNat := by
  obtain ⟨n, rfl⟩ := Int.eq_ofNat_of_zero_le h
  rfl
def SKr (f : Nat → Int) : Nat → Int
  | 0 => 0
  | i + 1 => (SKr f i) + f ((7420 + (2 * ((i : Nat) : Int))) + 1).toNat
theorem SKr_s {f : Nat → Int} {i : Int} (h : 0 ≤ i) : SKr f (i + 1).toNat = (SKr f i.toNat) + f ((7420 + (2 * i)) + 1).toNat := by
  obtain ⟨n, rfl⟩ := Int.eq_ofNat_of_zero_le h
  rfl
def FAr (f : Nat → Int) (m : Int) : Nat → Int
  | 0 => 0
  | i + 1 => (FAr f m i) + ((f (7420 + (2 * ((i : Nat) : Int))).toNat * AB (SHr f ((i : Nat) : Int) - m)) * AB (SHr f ((i : Nat) : Int) - m))
theorem FAr_s {f : Nat → Int} {m : Int} {i : Int} (h : 0 ≤ i) : FAr f m (i + 1).toNat = (FAr f m i.toNat) + ((f (7420 + (2 * i)).toNat * AB (SHr f i - m)) * AB (SHr f i - m)) := by
  obtain ⟨n, rfl⟩ := Int.eq_ofNat_of_zero_le h
  rfl
def OFr (f : Nat → Int) (m : Int) : Nat → Int
  | 0 => 0
  | i + 1 => am_or (OFr f m i) (if 1000 / RT (f (7420 + (2 * ((i : Nat) : Int))).toNat) < AB (SHr f ((i : Nat) : Int) - m) then am_shl 1 ((i : Nat) : Int) else 0)
theorem OFr_s {f : Nat → Int} {m : Int} {i : Int} (h : 0 ≤ i) : OFr f m (i + 1).toNat = am_or (OFr f m i.toNat) (if 1000 / RT (f (7420 + (2 * i)).toNat) < AB (SHr f i - m) then am_shl 1 i else 0) := by
  obtain ⟨n, rfl⟩ := Int.eq_ofNat_of_zero_le h
  rfl
def HVr (f : Nat → Int) : Nat → Int
  | 0 => 0
  | i + 1 => am_or (HVr f i) (if 500 ≤ SHr f ((i : Nat) : Int) then am_shl 1 ((i : Nat) : Int) else 0)
theorem HVr_s {f : Nat → Int} {i : Int} (h : 0 ≤ i) : HVr f (i + 1).toNat = am_or (HVr f i.toNat) (if 500 ≤ SHr f i then am_shl 1 i else 0) := by
  obtain ⟨n, rfl⟩ := Int.eq_ofNat_of_zero_le h
  rfl
def JNr (f : Nat → Int) (n : Int) : Int := if SNr f n.toNat = 0 then -1 else (1000 * SKr f n.toNat) / SNr f n.toNat
def FFr (f : Nat → Int) (n : Int) : Int := (wl (FAr f (JNr f n) n.toNat)).tdiv (wl 1000)
def HSr (f : Nat → Int) (n k : Int) : Int := if 10 ≤ k ∧ k < 10 + n then SHr f (k - 10) else if k = 0 then JNr f n else if k = 1 then FFr f n else if k = 2 then OFr f (JNr f n) n.toNat else if k = 3 then HVr f n.toNat else -1
theorem H_A {g f : Nat → Int} {n i : Int} (h : RW2 g f n 7420) (hi : 0 ≤ i) (hn : i < n) : f (7420 + (2 * i)).toNat = g ((i * 2) + 0).toNat := by
  rw [h _ (by omega)]; congr 1; omega
theorem H_B {g f : Nat → Int} {n i : Int} (h : RW2 g f n 7420) (hi : 0 ≤ i) (hn : i < n) : f ((7420 + (2 * i)) + 1).toNat = g ((i * 2) + 1).toNat := by
  rw [h _ (by omega)]; congr 1; omega
theorem SH_con {g f : Nat → Int} {n i : Int} (h : RW2 g f n 7420) (hi : 0 ≤ i) (hn : i < n) : SHr f i = SHc g i := by
  unfold SHr SHc; rw [H_A h hi hn, H_B h hi hn]
theorem SN_con {g f : Nat → Int} {n : Int} (h : RW2 g f n 7420) : ∀ q : Nat, (q : Int) ≤ n → SNr f q = SNc g q
  | 0, _ => rfl
  | q + 1, hq => by
    unfold SNr SNc
    rw [SN_con h q (by omega), H_A h (by omega) (by omega)]
theorem SK_con {g f : Nat → Int} {n : Int} (h : RW2 g f n 7420) : ∀ q : Nat, (q : Int) ≤ n → SKr f q = SKc g q
  | 0, _ => rfl
  | q + 1, hq => by
    unfold SKr SKc
    rw [SK_con h q (by omega), H_B h (by omega) (by omega)]
theorem FA_con {g f : Nat → Int} {n : Int} {m : Int} (h : RW2 g f n 7420) : ∀ q : Nat, (q : Int) ≤ n → FAr f m q = FAc g m q
  | 0, _ => rfl
  | q + 1, hq => by
    unfold FAr FAc
    rw [FA_con h q (by omega), H_A h (by omega) (by omega), SH_con h (by omega) (by omega), AB_sq]
theorem OF_con {g f : Nat → Int} {n : Int} {m : Int} (h : RW2 g f n 7420) : ∀ q : Nat, (q : Int) ≤ n → OFr f m q = OFc g m q
  | 0, _ => rfl
  | q + 1, hq => by
    unfold OFr OFc
    rw [OF_con h q (by omega), H_A h (by omega) (by omega), SH_con h (by omega) (by omega)]
theorem HV_con {g f : Nat → Int} {n : Int} (h : RW2 g f n 7420) : ∀ q : Nat, (q : Int) ≤ n → HVr f q = HVc g q
  | 0, _ => rfl
  | q + 1, hq => by
    unfold HVr HVc
    rw [HV_con h q (by omega), SH_con h (by omega) (by omega)]
theorem JN_con {g f : Nat → Int} {n : Int} (h : RW2 g f n 7420) (h0 : 0 ≤ n) : JNr f n = JNc g n := by
  unfold JNr JNc; rw [SN_con h _ (by omega), SK_con h _ (by omega)]
theorem HS_con {g f : Nat → Int} {n m k : Int} (h : RW2 g f n 7420) (h0 : 0 ≤ n) (hm : m = n) : HSr f n k = HSc g m k := by
  subst hm
  unfold HSr HSc FFr FFc
  rw [JN_con h h0, FA_con h _ (by omega), OF_con h _ (by omega), HV_con h _ (by omega)]
  by_cases c : 10 ≤ k ∧ k < 10 + m
  · rw [if_pos c, if_pos c, SH_con h (by omega) (by omega)]
  · rw [if_neg c, if_neg c]
theorem SHc_R {g : Nat → Int} {n i : Int} (h : RB 1 999 0 999 g n) (hi : 0 ≤ i) (hn : i < n) : 0 ≤ SHc g i ∧ SHc g i ≤ 999000 := by
  have z := h i hi hn
  unfold SHc
  have := div_R (a := 1000 * g ((i * 2) + 1).toNat) (b := g ((i * 2) + 0).toNat) (by omega) (by omega)
  omega
theorem SHr_R {f : Nat → Int} {i : Int} (hM : MW f) (hi : 0 ≤ i) (hn : i < f 5) : 0 ≤ SHr f i ∧ SHr f i ≤ 999000 := by
  have z := MW_h hM i ⟨hi, hn⟩
  unfold SHr
  have := div_R (a := 1000 * f ((7420 + (2 * i)) + 1).toNat) (b := f (7420 + (2 * i)).toNat) (by omega) (by omega)
  omega
