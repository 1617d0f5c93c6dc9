/-! a method's contract out of a run -/
theorem n_chr {v : Int} (h1 : 0 ≤ v) (h2 : v < 65536) : narrow .char (.int (Int32.ofInt v)) = .int (Int32.ofInt v) := by
  obtain ⟨n, rfl⟩ : ∃ n : Nat, v = (n : Int) := ⟨v.toNat, by omega⟩
  show Value.int (Int32.ofInt (n : Int)).toUInt32.toUInt16.toUInt32.toInt32 = _
  congr 1
  apply Int32.toBitVec_inj.mp
  have e : (Int32.ofInt (n : Int)).toBitVec = BitVec.ofNat 32 n := by
    rw [← n_nat]; rfl
  apply BitVec.eq_of_toNat_eq
  simp [e]
  omega
theorem am_args0 {ad : Nat → Nat} : ∀ (a : List AV) (i : Nat), (∀ v ∈ a, am_cat v = 1) → ∀ (j : Nat) (v : AV), a[j]? = some v → (i + j, co ad v) ∈ lv_args i (a.map (co ad)) := by
  intro a
  induction a with
  | nil => intro i h j v hj; cases hj
  | cons x a ih =>
    intro i h j v hj
    have hx : ¬ (co ad x).category = 2 := by rw [co_cat, h x List.mem_cons_self]; decide
    show _ ∈ (i, co ad x) :: lv_args (if (co ad x).category = 2 then i + 2 else i + 1) (a.map (co ad))
    rw [if_neg hx]
    cases j with
    | zero => cases hj; exact List.mem_cons_self
    | succ j =>
      have := ih (i + 1) (fun v hv => h v (List.mem_cons_of_mem _ hv)) j v hj
      rw [show i + (j + 1) = i + 1 + j by omega]
      exact List.mem_cons_of_mem _ this
theorem am_sl_len {ad : Nat → Nat} : ∀ (a : List AV), (∀ v ∈ a, am_cat v = 1) → (lg_sl (a.map (co ad))).length = a.length := by
  intro a
  induction a with
  | nil => intro _; rfl
  | cons x a ih =>
    intro h
    have hx : ¬ (co ad x).category = 2 := by rw [co_cat, h x List.mem_cons_self]; decide
    have := ih (fun v hv => h v (List.mem_cons_of_mem _ hv))
    unfold lg_sl at this ⊢
    rw [List.map_cons, List.flatMap_cons, if_neg hx, List.length_append, this]
    simp
    omega
theorem am_ent_get {a : List AV} {n i : Nat} {v : AV} (h : (am_ent a n)[i]? = some (some v)) : a[i]? = some v := by
  unfold am_ent at h
  by_cases hi : i < a.length
  · rw [List.getElem?_append_left (by rw [List.length_map]; exact hi), List.getElem?_map] at h
    cases ha : a[i]? with
    | none => rw [ha] at h; cases h
    | some u => rw [ha] at h; cases h; rfl
  · rw [List.getElem?_append_right (by rw [List.length_map]; omega), List.getElem?_replicate] at h
    split at h <;> cases h
theorem am_ent_len {a : List AV} {n : Nat} (h : a.length ≤ n) : (am_ent a n).length = n := by
  unfold am_ent
  rw [List.length_append, List.length_map, List.length_replicate]
  omega
theorem am_entry {ad : Nat → Nat} {a : List AV} {n : Nat} (hc : ∀ v ∈ a, am_cat v = 1) (hn : a.length ≤ n) : am_LR ad ((lg_sl (a.map (co ad)) ++ List.replicate (n - (lg_sl (a.map (co ad))).length) Slot.unset).toArray) n (am_ent a n) := by
  have hl := lv_entry (a.map (co ad)) (n := n) (by rw [am_sl_len a hc]; exact hn)
  refine ⟨hl.1, hl.2.1, am_ent_len hn, fun i v hi => ?_⟩
  have := am_args0 (ad := ad) a 0 hc i v (am_ent_get hi)
  rw [Nat.zero_add] at this
  exact hl.2.2 _ this
def am_rm (d mc ms : Nat) : Room := { frames := d + 1, cells := mc, slots := ms, locals := 64 * (d + 1) }
def am_PRE (D : va_G) (cy : Nat → ClassId) (sites : List (String × Nat × Nat)) (nests : am_nst) (X : am_X) (b0 : Nat) (ad : Nat → Nat) (w : am_W) (U : State) : Prop :=
  b0 ≤ U.heap.size ∧ va_P D vwCl (am_ws ad cy w) U.heap ∧ va_D (am_A b0) (am_ws ad cy w) ∧ va_K D vwCl (am_ty cy) U ∧ am_XO sites nests X ad b0 U
def am_POST (D : va_G) (cy : Nat → ClassId) (b0 : Nat) (ad : Nat → Nat) (w : am_W) (r : Option AV) (w1 : am_W) : Array Value → State → Outcome → State → Prop := fun _ st oc t =>
  (∃ ad' : Nat → Nat, (∀ k, ¬ (w.1.length ≤ k ∧ k < w1.1.length) → ad' k = ad k) ∧ oc = .returned (r.map (co ad')) ∧ va_P D vwCl (am_ws ad' cy w1) t.heap ∧ va_D (am_A b0) (am_ws ad' cy w1)) ∧ va_F (am_A b0) st t
def am_rt (k : Nat) (i : Instr) (r : Option AV) : Prop := (i = .ireturn ∧ ∃ v, r = some (.inl v) ∧ am_rk k v = true) ∨ (i = .lreturn ∧ k = 3 ∧ ∃ v, r = some (.inr (.inl v))) ∨ (i = .return_ ∧ k = 0 ∧ r = none)
section RET
variable {p : Program} {l : Launch} {e : Env} {R : Room} {s : State} {m : MethodId} {args : Array Value} {below : List Frame} {meth : Method} {c : Code} {H : Heap} {locs : List Loc} {cells slots : Nat} {Q : State → Prop}
theorem am_ret {cc : ByteArray} {D : va_G} {cy : Nat → ClassId} {b0 k pc : Nat} {ad ad' : Nat → Nat} {w w1 : am_W} {r : Option AV} {i : Instr} {ls : Array Slot} {ret : Option FieldType} (hx : p.tables.exec = Jvm.exec) (hb : c.code = cc) (hr : meth.sig.returnType = ret) (hk : am_rkt k ret = true) (hlocks : meth.locks = false)
    (he : ∀ k, ¬ (w.1.length ≤ k ∧ k < w1.1.length) → ad' k = ad k) (hP : va_P D vwCl (am_ws ad' cy w1) H) (hD : va_D (am_A b0) (am_ws ad' cy w1)) (hS : va_S (am_A b0) s.heap H locs) (hd : decode cc pc = .ok (i, 1)) (hrt : am_rt k i r) :
    W p l e R s m args below meth c H locs cells slots (MQ below (am_POST D cy b0 ad w r w1) args s cells slots (am_A b0)) (F0 m pc ls (r.toList.map (co ad'))) := by
  have hq : ∀ t : State, t.heap = H → s.WarmedH t.vm → am_POST D cy b0 ad w r w1 args s (.returned (r.map (co ad'))) t := by
    intro t ht _
    exact ⟨⟨ad', he, rfl, by rw [ht]; exact hP, hD⟩, hS.F ht⟩
  rcases hrt with ⟨rfl, v, rfl, hv⟩ | ⟨rfl, hk3, v, rfl⟩ | ⟨rfl, hk0, rfl⟩
  · unfold am_rkt at hk
    split at hk
    · cases hv
    · exact W.iret (v := Int32.ofInt v) hx hb hr hq hS.2.2 hd hlocks
    · have h2 : v = 0 ∨ v = 1 := of_decide_eq_true hv
      have hn : narrow .boolean (.int (Int32.ofInt v)) = .int (Int32.ofInt v) := by rcases h2 with rfl | rfl <;> decide
      exact W.zret (v := Int32.ofInt v) hx hb hr hn hq hS.2.2 hd hlocks
    · cases hv
    · have h2 : 0 ≤ v ∧ v < 65536 := of_decide_eq_true hv
      exact W.zret (v := Int32.ofInt v) hx hb hr (n_chr h2.1 h2.2) hq hS.2.2 hd hlocks
    · have h2 : v = 0 := of_decide_eq_true hv
      have hn : narrow .byte (.int (Int32.ofInt v)) = .int (Int32.ofInt v) := by rw [h2]; decide
      exact W.zret (v := Int32.ofInt v) hx hb hr hn hq hS.2.2 hd hlocks
    · cases hk
  · subst hk3
    unfold am_rkt at hk
    split at hk
    · cases ‹3 = 0›
    · cases ‹3 = 1›
    · cases ‹3 = 2›
    · exact W.lret (v := Int64.ofInt v) hx hb hr hq hS.2.2 hd hlocks
    · cases ‹3 = 4›
    · cases ‹3 = 5›
    · cases hk
  · subst hk0
    unfold am_rkt at hk
    split at hk
    · exact W.vret hx hb hr hq hS.2.2 hd hlocks
    · cases ‹0 = 1›
    · cases ‹0 = 2›
    · cases ‹0 = 3›
    · cases ‹0 = 4›
    · cases ‹0 = 5›
    · cases hk
theorem am_run_any {A0 : Nat → Prop} {H0 : Heap} {pc : Nat} {ls : Array Slot} {rest st0 : List Value} {mc ms : Nat} {free : Addr → Prop} {Qa : State → Outcome → State → Prop} (hr : va_Run p l e R s m args below meth c H locs cells slots mc ms (F0 m pc ls st0) rest Qa free) (hS : va_S A0 H0 H locs) (hf : ∀ q, free q → A0 q) (hF : ∀ st o t, Qa st o t → va_F A0 st t)
    (kk : ∀ (v : Option Value) (st₀ t : State) (H1 : Heap) (locs1 : List Loc), st₀.heap = H → t.heap = H1 → Qa st₀ (.returned v) t → va_S A0 H0 H1 locs1 → W p l e R s m args below meth c H1 locs1 (cells + mc) (slots + ms) Q (F0 m (pc + 3) ls (v.toList ++ rest))) : W p l e R s m args below meth c H locs cells slots Q (F0 m pc ls st0) := by
  intro T hT X
  obtain ⟨v, st₀, t, T', L, h0, X', hL, e1, e2, hq, st⟩ := hr T hT X
  obtain ⟨hz, hk⟩ := hF _ _ _ hq
  rw [h0] at hz hk
  obtain ⟨t2, a1, b1⟩ := kk v st₀ t T'.heap (locs ++ L) h0 e1.symm hq
    ⟨Nat.le_trans hS.1 (by rw [e1]; exact hz), fun q h1 h2 => by rw [e1, hk q (Nat.lt_of_lt_of_le h1 hS.1) h2]; exact hS.2.1 q h1 h2, fun q hq => by
      rcases List.mem_append.mp hq with h | h
      · exact hS.2.2 q h
      · exact hf _ (hL q h)⟩ T' rfl X'
  exact ⟨t2, st t2 a1, b1⟩
end RET
