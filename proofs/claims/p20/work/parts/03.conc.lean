/-! what a value, a cell, a world of the small machine is in the heap -/
theorem n_toInt (x : Int) : (Int32.ofInt x).toInt = wr x := by
  rw [Int32.toInt_ofInt]
  unfold wr
  simp only [Int.bmod, Int32.size]
  split <;> omega
theorem n_toInt64 (x : Int) : (Int64.ofInt x).toInt = wl x := by
  rw [Int64.toInt_ofInt]
  unfold wl
  simp only [Int.bmod, Int64.size]
  split <;> omega
theorem wr_id {x : Int} (h1 : -2147483648 ≤ x) (h2 : x < 2147483648) : wr x = x := by unfold wr; omega
theorem wl_id {x : Int} (h1 : -9223372036854775808 ≤ x) (h2 : x < 9223372036854775808) : wl x = x := by unfold wl; omega
theorem wr_lo (x : Int) : -2147483648 ≤ wr x := by unfold wr; omega
theorem wr_hi (x : Int) : wr x < 2147483648 := by unfold wr; omega
theorem n_of (x : Int32) : Int32.ofInt x.toInt = x := Int32.ofInt_toInt x
theorem n_of64 (x : Int64) : Int64.ofInt x.toInt = x := Int64.ofInt_toInt x
theorem n_wr (x : Int) : Int32.ofInt (wr x) = Int32.ofInt x := by rw [← n_toInt, n_of]
theorem n_eq {x y : Int} : Int32.ofInt x = Int32.ofInt y ↔ wr x = wr y := by
  rw [← n_toInt, ← n_toInt]; exact Int32.toInt_inj.symm
theorem n_lt {x y : Int} : Int32.ofInt x < Int32.ofInt y ↔ wr x < wr y := by
  rw [Int32.lt_iff_toInt_lt, n_toInt, n_toInt]
theorem n_le {x y : Int} : Int32.ofInt x ≤ Int32.ofInt y ↔ wr x ≤ wr y := by
  rw [Int32.le_iff_toInt_le, n_toInt, n_toInt]
theorem n_lt64 {x y : Int} : Int64.ofInt x < Int64.ofInt y ↔ wl x < wl y := by
  rw [Int64.lt_iff_toInt_lt, n_toInt64, n_toInt64]
theorem n_eq64 {x y : Int} : Int64.ofInt x = Int64.ofInt y ↔ wl x = wl y := by
  rw [← n_toInt64, ← n_toInt64]; exact Int64.toInt_inj.symm
theorem n_nz {x : Int} : (¬ Int32.ofInt x = 0) ↔ ¬ wr x = 0 := by
  rw [show (0 : Int32) = Int32.ofInt 0 from rfl, n_eq]
  exact Iff.rfl
theorem n_nz64 {x : Int} : (¬ Int64.ofInt x = 0) ↔ ¬ wl x = 0 := by
  rw [show (0 : Int64) = Int64.ofInt 0 from rfl, n_eq64]
  exact Iff.rfl
theorem n_wl (x : Int) : Int64.ofInt (wl x) = Int64.ofInt x := by rw [← n_toInt64, n_of64]
theorem n_add (x y : Int) : Int32.ofInt (x + y) = Int32.ofInt x + Int32.ofInt y := Int32.ofInt_add x y
theorem n_sub (x y : Int) : Int32.ofInt (x - y) = Int32.ofInt x - Int32.ofInt y := Int32.ofInt_sub x y
theorem n_mul (x y : Int) : Int32.ofInt (x * y) = Int32.ofInt x * Int32.ofInt y := Int32.ofInt_mul x y
theorem n_neg (x : Int) : Int32.ofInt (-x) = - Int32.ofInt x := Int32.ofInt_neg x
theorem n_add64 (x y : Int) : Int64.ofInt (x + y) = Int64.ofInt x + Int64.ofInt y := Int64.ofInt_add x y
theorem n_sub64 (x y : Int) : Int64.ofInt (x - y) = Int64.ofInt x - Int64.ofInt y := Int64.ofInt_sub x y
theorem n_mul64 (x y : Int) : Int64.ofInt (x * y) = Int64.ofInt x * Int64.ofInt y := Int64.ofInt_mul x y
theorem n_div (x y : Int) : Int32.ofInt ((wr x).tdiv (wr y)) = Int32.ofInt x / Int32.ofInt y := by
  apply Int32.toInt_inj.mp
  rw [Int32.toInt_div, n_toInt x, n_toInt y, Int32.toInt_ofInt]
theorem n_div64 (x y : Int) : Int64.ofInt ((wl x).tdiv (wl y)) = Int64.ofInt x / Int64.ofInt y := by
  apply Int64.toInt_inj.mp
  rw [Int64.toInt_div, n_toInt64 x, n_toInt64 y, Int64.toInt_ofInt]
theorem n_rem (x y : Int) : Int32.ofInt ((wr x).tmod (wr y)) = Int32.ofInt x - Int32.ofInt x / Int32.ofInt y * Int32.ofInt y := by
  have h : (wr x).tmod (wr y) = wr x - (wr x).tdiv (wr y) * wr y := by
    have := Int.mul_tdiv_add_tmod (wr x) (wr y)
    rw [Int.mul_comm] at this
    omega
  rw [h, n_sub, n_mul, n_wr, n_wr, n_div]
theorem n_i2l (x : Int) : (Int32.ofInt x).toInt64 = Int64.ofInt (wr x) := by
  apply Int64.toInt_inj.mp
  rw [Int32.toInt_toInt64, n_toInt, n_toInt64, wl_id] <;> unfold wr <;> omega
theorem n_l2i (x : Int) : (Int64.ofInt x).toInt32 = Int32.ofInt x := by
  apply Int32.toInt_inj.mp
  rw [n_toInt, Int64.toInt_toInt32, n_toInt64]
  unfold wl wr
  simp only [Int.bmod]
  split <;> omega
theorem n_idx {j : Int} {n : Nat} (hn : n < 2147483648) (h1 : 0 ≤ j) (h2 : j < n) : vp_in (Int32.ofInt j) n ∧ (Int32.ofInt j).toNatClampNeg = j.toNat := by
  have e : (Int32.ofInt j).toInt = j := by rw [n_toInt, wr_id (by omega) (by omega)]
  refine ⟨vp_in_iff.mpr ⟨by rw [e]; exact h1, by rw [e]; exact h2⟩, ?_⟩
  show (Int32.ofInt j).toInt.toNat = j.toNat
  rw [e]
theorem n_pos {j : Int} (h1 : 0 ≤ j) (h2 : j < 2147483648) : ¬ Int32.ofInt j < 0 ∧ (Int32.ofInt j).toNatClampNeg = j.toNat := by
  have e : (Int32.ofInt j).toInt = j := by rw [n_toInt, wr_id (by omega) (by omega)]
  refine ⟨?_, ?_⟩
  · rw [show (0 : Int32) = Int32.ofInt 0 from rfl, n_lt, wr_id (by omega) (by omega), wr_id (by omega) (by omega)]
    omega
  · show (Int32.ofInt j).toInt.toNat = j.toNat
    rw [e]
theorem n_nat (n : Nat) : Int32.ofNat n = Int32.ofInt (n : Int) := (Int32.ofInt_eq_ofNat).symm
def co (ad : Nat → Nat) (v : AV) : Value := match v with
  | .inl x => .int (Int32.ofInt x)
  | .inr (.inl x) => .long (Int64.ofInt x)
  | .inr (.inr r) => va_rf (r.map ad)
def am_cell (ad : Nat → Nat) (cy : Nat → ClassId) (k : Nat) (s : am_Sh) (dt : Nat → Nat → Int) : va_E := match s with
  | .inl (ty, n) => .inl (cy ty, n, if ty = 2 then .inr (.inl (fun j => Int64.ofInt (dt k j))) else .inl (fun j => Int32.ofInt (dt k j)))
  | .inr (ci, fs) => .inr (ci, fs.mapIdx (fun j o => match o with
    | none => .int (Int32.ofInt (dt k j))
    | some r => va_rf (r.map ad)))
def am_ws (ad : Nat → Nat) (cy : Nat → ClassId) (w : am_W) : va_W := w.1.mapIdx (fun k s => (ad k, am_cell ad cy k s w.2))
theorem am_ws_get (ad : Nat → Nat) (cy : Nat → ClassId) (w : am_W) (k : Nat) : (am_ws ad cy w)[k]? = (w.1[k]?).map (fun s => (ad k, am_cell ad cy k s w.2)) := by
  unfold am_ws
  rw [List.getElem?_mapIdx]
theorem am_ws_len (ad : Nat → Nat) (cy : Nat → ClassId) (w : am_W) : (am_ws ad cy w).length = w.1.length := by
  unfold am_ws
  rw [List.length_mapIdx]
theorem am_cell_same {ad : Nat → Nat} {cy : Nat → ClassId} {k : Nat} {s : am_Sh} {d1 d2 : Nat → Nat → Int} (h : ∀ b, d1 k b = d2 k b) : am_cell ad cy k s d1 = am_cell ad cy k s d2 := by
  unfold am_cell
  have e : d1 k = d2 k := funext h
  rw [e]
theorem am_ws_set {ad : Nat → Nat} {cy : Nat → ClassId} {w : am_W} {r : Nat} {s : am_Sh} (hr : w.1[r]? = some s) (s' : am_Sh) (dt' : Nat → Nat → Int) (hd : ∀ a, a ≠ r → ∀ b, dt' a b = w.2 a b) : am_ws ad cy (w.1.set r s', dt') = (am_ws ad cy w).set r (ad r, am_cell ad cy r s' dt') := by
  have hl : r < w.1.length := (List.getElem?_eq_some_iff.mp hr).1
  apply List.ext_getElem?
  intro k
  rw [am_ws_get]
  by_cases hk : k = r
  · subst hk
    have e1 : (w.1.set k s')[k]? = some s' := List.getElem?_set_self hl
    have e2 : ((am_ws ad cy w).set k (ad k, am_cell ad cy k s' dt'))[k]? = some (ad k, am_cell ad cy k s' dt') := List.getElem?_set_self (by rw [am_ws_len]; exact hl)
    rw [e2]
    show ((w.1.set k s')[k]?).map _ = _
    rw [e1]
    rfl
  · have e1 : (w.1.set r s')[k]? = w.1[k]? := List.getElem?_set_ne (Ne.symm hk)
    have e2 : ((am_ws ad cy w).set r (ad r, am_cell ad cy r s' dt'))[k]? = (am_ws ad cy w)[k]? := List.getElem?_set_ne (Ne.symm hk)
    rw [e2, am_ws_get]
    show ((w.1.set r s')[k]?).map _ = _
    rw [e1]
    cases w.1[k]? with
    | none => rfl
    | some t =>
      show some (ad k, am_cell ad cy k t dt') = some (ad k, am_cell ad cy k t w.2)
      rw [am_cell_same (hd k hk)]
theorem am_set_id {α : Type} {l : List α} {r : Nat} {s : α} (hr : l[r]? = some s) : l.set r s = l := by
  apply List.ext_getElem?
  intro k
  by_cases hk : k = r
  · subst hk
    rw [List.getElem?_set_self (List.getElem?_eq_some_iff.mp hr).1, hr]
  · rw [List.getElem?_set_ne (Ne.symm hk)]
theorem am_ws_dat {ad : Nat → Nat} {cy : Nat → ClassId} {w : am_W} {r : Nat} {s : am_Sh} (hr : w.1[r]? = some s) (dt' : Nat → Nat → Int) (hd : ∀ a, a ≠ r → ∀ b, dt' a b = w.2 a b) : am_ws ad cy (w.1, dt') = (am_ws ad cy w).set r (ad r, am_cell ad cy r s dt') := by
  have h := am_ws_set (ad := ad) (cy := cy) hr s dt' hd
  rw [am_set_id hr] at h
  exact h
theorem am_ws_push {ad : Nat → Nat} {cy : Nat → ClassId} {w : am_W} (s : am_Sh) (dt' : Nat → Nat → Int) (q : Nat) (hd : ∀ a, a < w.1.length → ∀ b, dt' a b = w.2 a b) (hq : ad w.1.length = q) : am_ws ad cy (w.1 ++ [s], dt') = am_ws ad cy w ++ [(q, am_cell ad cy w.1.length s dt')] := by
  apply List.ext_getElem?
  intro k
  rw [am_ws_get]
  show ((w.1 ++ [s])[k]?).map _ = _
  by_cases hk : k < w.1.length
  · rw [List.getElem?_append_left hk, List.getElem?_append_left (by rw [am_ws_len]; exact hk), am_ws_get]
    cases w.1[k]? with
    | none => rfl
    | some t =>
      show some (ad k, am_cell ad cy k t dt') = some (ad k, am_cell ad cy k t w.2)
      rw [am_cell_same (hd k hk)]
  · rw [List.getElem?_append_right (by omega), List.getElem?_append_right (by rw [am_ws_len]; omega), am_ws_len]
    by_cases hz : k = w.1.length
    · subst hz
      rw [Nat.sub_self]
      show some (ad w.1.length, _) = some (q, _)
      rw [hq]
    · have : ∃ j, k - w.1.length = j + 1 := ⟨k - w.1.length - 1, by omega⟩
      obtain ⟨j, hj⟩ := this
      rw [hj]
      rfl
/-- the locals -/
def am_LR (ad : Nat → Nat) (ls : Array Slot) (nL : Nat) (L : am_L) : Prop := ls.size = nL ∧ lv_wf ls ∧ L.length = nL ∧ ∀ (i : Nat) (v : AV), L[i]? = some (some v) → ls[i]? = some (.val (co ad v))
def am_lv (ad : Nat → Nat) (L : am_L) : List (Nat × Value) := (L.mapIdx (fun i o => o.map (fun v => (i, co ad v)))).filterMap id
theorem am_lv_mem {ad : Nat → Nat} {L : am_L} {q : Nat × Value} : q ∈ am_lv ad L ↔ ∃ v, L[q.1]? = some (some v) ∧ q.2 = co ad v := by
  unfold am_lv
  rw [List.mem_filterMap]
  constructor
  · rintro ⟨o, ho, he⟩
    obtain ⟨i, hi⟩ := List.getElem?_of_mem ho
    rw [List.getElem?_mapIdx] at hi
    cases hL : L[i]? with
    | none => rw [hL] at hi; cases hi
    | some o2 =>
      rw [hL] at hi
      cases o2 with
      | none => cases hi; cases he
      | some v => cases hi; cases he; exact ⟨v, hL, rfl⟩
  · rintro ⟨v, hv, he⟩
    refine ⟨some q, ?_, rfl⟩
    apply List.mem_of_getElem? (i := q.1)
    rw [List.getElem?_mapIdx, hv]
    show some (some (q.1, co ad v)) = _
    rw [← he]
theorem am_LR.has {ad : Nat → Nat} {ls : Array Slot} {nL : Nat} {L : am_L} (h : am_LR ad ls nL L) : lv_has ls nL (am_lv ad L) := by
  refine ⟨h.1, h.2.1, fun q hq => ?_⟩
  obtain ⟨v, h1, h2⟩ := am_lv_mem.mp hq
  rw [h2]
  exact h.2.2.2 q.1 v h1
theorem am_ld_some {L : am_L} {i : Nat} {v : AV} (h : am_ld L i = some v) : L[i]? = some (some v) := by
  unfold am_ld at h
  rw [List.getD_eq_getElem?_getD] at h
  cases hL : L[i]? with
  | none => rw [hL] at h; cases h
  | some o => rw [hL] at h; rw [show o = some v from h]
theorem am_LR.at {ad : Nat → Nat} {ls : Array Slot} {nL : Nat} {L : am_L} (h : am_LR ad ls nL L) {i : Nat} {v : AV} (hv : am_ld L i = some v) : ls[i]? = some (.val (co ad v)) := h.2.2.2 i v (am_ld_some hv)
theorem co_cat (ad : Nat → Nat) (v : AV) : (co ad v).category = am_cat v := by
  rcases v with x | x | x
  · rfl
  · rfl
  · cases x <;> rfl
