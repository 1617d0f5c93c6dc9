/-! a method's own words, its bytes told in one walk -/
def eBy : List UInt8 → List UInt8 → Bool
  | [], [] => true
  | a :: l, b :: m => Nat.beq a.toNat b.toNat && eBy l m
  | _, _ => false
theorem eBy_ok : ∀ {l m : List UInt8}, eBy l m = true → l = m
  | [], [], _ => rfl
  | a :: l, b :: m, h => by
    have h' : (Nat.beq a.toNat b.toNat && eBy l m) = true := h
    rw [Bool.and_eq_true] at h'
    rw [UInt8.toNat_inj.mp (Nat.eq_of_beq_eq_true h'.1), eBy_ok h'.2]
  | [], _ :: _, h => nomatch (show false = true from h)
  | _ :: _, [], h => nomatch (show false = true from h)
theorem eBa {c d : ByteArray} (h : eBy c.data.toList d.data.toList = true) : c = d := by
  have e := eBy_ok h
  cases c with
  | mk x =>
    cases d with
    | mk y =>
      have e2 : x = y := Array.toList_inj.mp e
      rw [e2]
def eWc (pl : Nat) (m : MethodName) (c : ByteArray) (n : Nat) (r : Option FieldType) : Bool := (match am_T2[pl / 64]? with
  | some l => (match l[pl % 64]? with
    | some (.code m' c' n' r') => decide (m' = m) && (eBy c'.data.toList c.data.toList && (Nat.beq n' n && decide (r' = r)))
    | _ => false)
  | none => false) && goodWord (.code m c n r)
theorem eWc_ok {pl n : Nat} {m : MethodName} {c : ByteArray} {r : Option FieldType} (h : eWc pl m c n r = true) : wok pl (.code m c n r) = true := by
  unfold eWc at h
  rw [Bool.and_eq_true] at h
  obtain ⟨h1, h2⟩ := h
  unfold wok
  split at h1
  · rename_i l hl
    rw [hl]
    split at h1
    · rename_i m' c' n' r' he
      rw [Bool.and_eq_true, Bool.and_eq_true, Bool.and_eq_true] at h1
      obtain ⟨a1, a2, a3, a4⟩ := h1
      show (decide (l[pl % 64]? = some (.code m c n r)) && goodWord (.code m c n r)) = true
      rw [Bool.and_eq_true]
      refine ⟨decide_eq_true ?_, h2⟩
      rw [he, of_decide_eq_true a1, eBa a2, Nat.eq_of_beq_eq_true a3, of_decide_eq_true a4]
    · cases h1
  · cases h1
def eOkm (b : am_N) (mt : am_M) (ps : List Nat) : Bool := match ps with
  | [p1, p2, p3, p4] => eWc p1 b.1 b.2.1 mt.2.2.1 b.2.2.1 && (wok p2 (.initialized b.1.cls) && ((match b.2.2.2 with
      | 0 => wok p3 (.static b.1)
      | 1 => wok p3 (.instanceMethod b.1) && wok p4 (.selects b.1.cls b.1 b.1)
      | _ => wok p3 (.instanceMethod b.1) && decide (b.1.name = "<init>" ∧ b.2.2.1 = none)) && (decide ((b.1.cls ≠ "java/lang/invoke/MethodHandle" ∧ b.1.cls ≠ "java/lang/invoke/VarHandle" ∧ (parseMethodDescriptor b.1.desc).map (fun d => d.parameters.length) = some (mt.2.1 - (if b.2.2.2 = 0 then 0 else 1))) ∧ (b.2.2.2 = 0 ∨ 1 ≤ mt.2.1) ∧ plainFor b.1 = true ∧ mt.2.1 ≤ mt.2.2.1 ∧ mt.2.2.1 ≤ 40) && am_rkt mt.2.2.2 b.2.2.1)))
  | _ => false
theorem eOkm_ok {b : am_N} {mt : am_M} : ∀ {ps : List Nat}, eOkm b mt ps = true → am_okm b mt ps = true
  | [p1, p2, p3, p4], h => by
    have h' : (eWc p1 b.1 b.2.1 mt.2.2.1 b.2.2.1 && _) = true := h
    rw [Bool.and_eq_true] at h'
    show (wok p1 (.code b.1 b.2.1 mt.2.2.1 b.2.2.1) && _) = true
    rw [Bool.and_eq_true]
    exact ⟨eWc_ok h'.1, h'.2⟩
  | [], h => nomatch (show false = true from h)
  | [_], h => nomatch (show false = true from h)
  | [_, _], h => nomatch (show false = true from h)
  | [_, _, _], h => nomatch (show false = true from h)
  | _ :: _ :: _ :: _ :: _ :: _, h => nomatch (show false = true from h)
