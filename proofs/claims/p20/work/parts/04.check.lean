/-! the words, and what is looked at for each instruction of the program -/
def am_TW : List Jvm.Cond := lw_tbl.filter goodWord
/-- the words in heaps of 64, so that one is found without a long walk -/
def am_ch : Nat → List Jvm.Cond → List (List Jvm.Cond)
  | 0, _ => []
  | n + 1, l => l.take 64 :: am_ch n (l.drop 64)
theorem am_ch_in : ∀ (n : Nat) (l m : List Jvm.Cond) (w : Jvm.Cond), m ∈ am_ch n l → w ∈ m → w ∈ l
  | 0, _, _, _, h, _ => by cases h
  | n + 1, l, m, w, h, hw => by
    rcases List.mem_cons.mp h with e | h
    · subst e; exact List.mem_of_mem_take hw
    · exact List.mem_of_mem_drop (am_ch_in n _ m w h hw)
def am_T2 : List (List Jvm.Cond) := am_ch 40 lw_tbl
def wok (pl : Nat) (w : Jvm.Cond) : Bool := (match am_T2[pl / 64]? with
  | some l => decide (l[pl % 64]? = some w)
  | none => false) && goodWord w
theorem wok_in {pl : Nat} {w : Jvm.Cond} (h : wok pl w = true) : w ∈ am_TW := by
  unfold wok at h
  rw [Bool.and_eq_true] at h
  obtain ⟨h1, h2⟩ := h
  split at h1
  · rename_i l hl
    exact List.mem_filter.mpr ⟨am_ch_in 40 lw_tbl l w (List.mem_of_getElem? hl) (List.mem_of_getElem? (of_decide_eq_true h1)), h2⟩
  · cases h1
theorem am_TW_good {ws : List Jvm.Cond} (h : ∀ w ∈ am_TW, w ∈ ws) : GoodIn ws am_TW := fun w hw => ⟨h w hw, good_of_word (List.mem_filter.mp hw).2⟩
def xF (k : Nat) : String × String × String := match k with
  | 0 => ("java/lang/String", "value", "[B")
  | _ => ("java/lang/String", "coder", "B")
def xS (k : Nat) : String × String × String := match k with
  | 0 => ("java/lang/String", "COMPACT_STRINGS", "Z")
  | 1 => ("jdk/internal/util/Preconditions", "SIOOBE_FORMATTER", "Ljava/util/function/BiFunction;")
  | _ => ("WhereShe", "LEAST_SUM", "[I")
def am_ref (t : FieldType) : Bool := match t with
  | .object _ => true
  | .array _ => true
  | _ => false
/-- the part of the check that is the same for all instructions without links -/
def am_oks (own : String) (ini : Bool) (sites : List (String × Nat × Nat)) (pc : Nat) (i : Instr) (nx : Nat) (tg : List Nat) (cv : Int) : Bool := match i with
  | .iconst n => decide (nx = pc + 1 ∧ Int32.ofInt n = Int32.ofInt cv)
  | .bipush n => decide (nx = pc + 2 ∧ (Int8.ofInt n).toInt32 = Int32.ofInt cv)
  | .sipush n => decide (nx = pc + 3 ∧ (Int16.ofInt n).toInt32 = Int32.ofInt cv)
  | .lconst n => decide (nx = pc + 1 ∧ Int64.ofNat (n : Nat) = Int64.ofInt cv)
  | .ldc2_w k => decide (nx = pc + 3) && wok (tg.headD 0) (.constantLong own k (Int64.ofInt cv))
  | .ldc_w k => decide (nx = pc + 3) && wok (tg.headD 0) (.constant own k (Int32.ofInt cv))
  | .ldc k => decide (nx = pc + 2) && (match tg with
    | [pl] => wok pl (.constant own k (Int32.ofInt cv))
    | [_, j] => decide ((own, k, j) ∈ sites)
    | _ => false)
  | .iload j => decide (nx = pc + 2 ∧ tg.headD 0 = j)
  | .iload_n j => decide (nx = pc + 1 ∧ tg.headD 0 = (j : Nat))
  | .lload j => decide (nx = pc + 2 ∧ tg.headD 0 = j)
  | .lload_n j => decide (nx = pc + 1 ∧ tg.headD 0 = (j : Nat))
  | .aload j => decide (nx = pc + 2 ∧ tg.headD 0 = j)
  | .aload_n j => decide (nx = pc + 1 ∧ tg.headD 0 = (j : Nat))
  | .istore j => decide (nx = pc + 2 ∧ tg.headD 0 = j)
  | .istore_n j => decide (nx = pc + 1 ∧ tg.headD 0 = (j : Nat))
  | .lstore j => decide (nx = pc + 2 ∧ tg.headD 0 = j)
  | .lstore_n j => decide (nx = pc + 1 ∧ tg.headD 0 = (j : Nat))
  | .astore j => decide (nx = pc + 2 ∧ tg.headD 0 = j)
  | .astore_n j => decide (nx = pc + 1 ∧ tg.headD 0 = (j : Nat))
  | .iinc j n => decide (nx = pc + 3 ∧ tg.headD 0 = j ∧ n = cv)
  | .getfield k => decide (nx = pc + 3) && (match tg with
    | [ci, j, pl] => (match vwCl[ci]? with
      | some q => Nat.blt j q.2.2 && wok pl (.fieldLink own k (q.2.1 j).1 (q.2.1 j).2.1 (q.2.1 j).2.2.1)
      | none => false)
    | [j, pl] => wok pl (.fieldLink own k (xF j).1 (xF j).2.1 (xF j).2.2)
    | _ => false)
  | .putfield k => decide (nx = pc + 3) && (match tg with
    | [ci, j, pl, z] => (match vwCl[ci]? with
      | some q => Nat.blt j q.2.2 && (wok pl (.fieldLink own k (q.2.1 j).1 (q.2.1 j).2.1 (q.2.1 j).2.2.1) && (match parseFieldDescriptor (q.2.1 j).2.2.1 with
        | some .int => (Nat.beq z 0 && !(q.2.1 j).2.2.2) || (Nat.beq z 2 && ((q.2.1 j).2.2.2 && (ini && decide ((q.2.1 j).1 = own))))
        | some .boolean => Nat.beq z 1 && !(q.2.1 j).2.2.2
        | some (.object _) => Nat.beq z 3 && ((q.2.1 j).2.2.2 && (ini && decide ((q.2.1 j).1 = own)))
        | some (.array _) => Nat.beq z 3 && ((q.2.1 j).2.2.2 && (ini && decide ((q.2.1 j).1 = own)))
        | _ => false))
      | none => false)
    | _ => false)
  | .getstatic k => decide (nx = pc + 3) && (match tg with
    | [j, pl] => wok pl (.fieldLink own k (xS j).1 (xS j).2.1 (xS j).2.2)
    | _ => false)
  | .invokestatic k => decide (nx = pc + 3) && (match tg with
    | [_, p1, p2, p3, p4] => wok p1 (.methodLink own k arraycopyName) && (wok p2 (.native arraycopyName) && (wok p3 (.static arraycopyName) && wok p4 (.initialized "java/lang/System")))
    | _ => false)
  | .invokespecial k => decide (nx = pc + 3) && (match tg with
    | [_, p1, p2, p3] => wok p1 (.methodLink own k objectInit) && (wok p2 (.instanceMethod objectInit) && wok p3 (.code objectInit ⟨#[0xb1]⟩ 1 none))
    | _ => false)
  | _ => decide (nx = pc + 1)
theorem am_dec {cc : ByteArray} {pc nx k : Nat} {i : Instr} (h : decode cc pc = .ok (i, nx - pc)) (e : nx = pc + k) : decode cc pc = .ok (i, k) := by
  subst e
  rw [h, Nat.add_sub_cancel_left]
def am_A (b0 : Nat) : Nat → Prop := fun q => b0 ≤ q
def am_ty (cy : Nat → ClassId) : List (ClassId × FieldType) := [(cy 0, .int), (cy 1, .byte), (cy 2, .long), (cy 3, .boolean)]
def am_tF (k : Nat) : FieldType := match k with
  | 0 => .int
  | _ => .byte
/-- what lies outside, in the heap -/
def am_XO (sites : List (String × Nat × Nat)) (nests : List (String × Nat × MethodName × String)) (X : am_X) (ad : Nat → Nat) (b0 : Nat) (U : State) : Prop :=
  (∀ r ty n f, X.1 r = some (ty, n, f) → (ty = 0 ∨ ty = 1) ∧ va_T (am_tF ty) (ad r) n (fun j => .int (Int32.ofInt (f j))) (am_A b0) U U.heap) ∧
  (∀ r k v, X.2.1 r k = some v → va_OF (xF k).1 (xF k).2.1 (xF k).2.2 (co ad v) (ad r) (am_A b0) U U.heap) ∧
  (∀ k v, X.2.2 k = some v → va_Z (xS k).1 (xS k).2.1 (xS k).2.2 (co ad v) (am_A b0) U U.heap) ∧
  (∀ q ∈ sites, ∃ tx, vk_R q.1 q.2.1 tx (ad (1000 + q.2.2)) U) ∧
  (∀ q ∈ nests, va_Nw (.methodLinkNest q.1 q.2.1 q.2.2.1 q.2.2.2) U) ∧
  (∀ r, 1000 ≤ r → r < 1024 → va_O "java/lang/String" (ad r) (am_A b0) U U.heap)
theorem am_XO.to {sites : List (String × Nat × Nat)} {nests : List (String × Nat × MethodName × String)} {X : am_X} {ad : Nat → Nat} {b0 : Nat} {s U : State} {locs : List Loc} (h : am_XO sites nests X ad b0 s) (hW : s.WarmedH U.vm) (hS : va_S (am_A b0) s.heap U.heap locs) : am_XO sites nests X ad b0 U := by
  obtain ⟨h1, h2, h3, h4, h5, h6⟩ := h
  refine ⟨fun r ty n f e => ⟨(h1 r ty n f e).1, ((h1 r ty n f e).2.moved hW.alike).kept hS.2.1⟩, fun r k v e => ((h2 r k v e).moved hW.alike).kept hS.2.1, fun k v e => ((h3 k v e).moved hW.alike).kept hS.2.1, fun q hq => ?_, fun q hq => va_Nw.warmM hW (h5 q hq), fun r e1 e2 => ((h6 r e1 e2).moved hW.alike).kept hS.2.1⟩
  obtain ⟨tx, ht⟩ := h4 q hq
  exact ⟨tx, ht.warm hW⟩
theorem am_XO.calling {sites : List (String × Nat × Nat)} {nests : List (String × Nat × MethodName × String)} {X : am_X} {ad : Nat → Nat} {b0 : Nat} {U : State} {g : JFrame} {mk : MethodId} {a : Array Value} (h : am_XO sites nests X ad b0 U) : am_XO sites nests X ad b0 (U.calling g mk a) := by
  obtain ⟨h1, h2, h3, h4, h5, h6⟩ := h
  have hv : U.vm.Alike (U.calling g mk a).vm := Vm.Alike.refl U.vm
  refine ⟨fun r ty n f e => ⟨(h1 r ty n f e).1, ((h1 r ty n f e).2.moved hv)⟩, fun r k v e => ((h2 r k v e).moved hv), fun k v e => ((h3 k v e).moved hv), fun q hq => ?_, fun q hq => va_Nw.same rfl rfl (h5 q hq), fun r e1 e2 => ((h6 r e1 e2).moved hv)⟩
  obtain ⟨tx, ht⟩ := h4 q hq
  exact ⟨tx, ht.same rfl⟩
theorem am_XO.ad {sites : List (String × Nat × Nat)} {nests : List (String × Nat × MethodName × String)} {X : am_X} {ad ad' : Nat → Nat} {b0 : Nat} {U : State} (h : am_XO sites nests X ad b0 U) (hv1 : ∀ r, (∃ q, X.1 r = some q) → 1000 ≤ r) (hv2 : ∀ r k v, X.2.1 r k = some v → 1000 ≤ r ∧ am_vld 0 v = true) (hv3 : ∀ k v, X.2.2 k = some v → am_vld 0 v = true) (he : ∀ k, 1000 ≤ k → ad' k = ad k) : am_XO sites nests X ad' b0 U := by
  obtain ⟨h1, h2, h3, h4, h5, h6⟩ := h
  have hc : ∀ v, am_vld 0 v = true → co ad' v = co ad v := by
    intro v hv
    rcases v with x | x | x
    · rfl
    · rfl
    · cases x with
      | none => rfl
      | some k =>
        simp [am_vld] at hv
        show va_rf (some (ad' k)) = va_rf (some (ad k))
        rw [he k hv]
  refine ⟨fun r ty n f e => ⟨(h1 r ty n f e).1, ?_⟩, fun r k v e => ?_, fun k v e => ?_, fun q hq => ?_, h5, fun r e1 e2 => ?_⟩
  · rw [he r (hv1 r ⟨_, e⟩)]; exact (h1 r ty n f e).2
  · rw [he r (hv2 r k v e).1, hc v (hv2 r k v e).2]; exact h2 r k v e
  · rw [hc v (hv3 k v e)]; exact h3 k v e
  · rw [he _ (by omega)]; exact h4 q hq
  · rw [he r e1]; exact h6 r e1 e2
