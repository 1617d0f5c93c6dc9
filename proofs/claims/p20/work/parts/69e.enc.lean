/-! the bytes of a method told one instruction after another: an opcode by its number, not by a look at all of them -/
abbrev eR (α : Type) := Jvm.ClassFile.Reader Jvm.ClassFile.DecodeError α
theorem eR_b {α β : Type} {r : eR α} {f : α → eR β} {C : ByteArray} {p q : Nat} {a : α} (h : r C p = .ok (a, q)) : (r >>= f) C p = f a C q := by
  show (do let (a, s) ← r C p; f a C s : Except Jvm.ClassFile.DecodeError (β × Nat)) = _
  rw [h]; rfl
section ENC
variable {C : ByteArray} {p : Nat} {a b c : UInt8} {l : List UInt8}
theorem eR_d (h : C.data.toList.drop p = a :: l) : C.data.toList.drop (p + 1) = l := by
  rw [← List.drop_drop, h]; rfl
theorem eR_u (h : C.data.toList.drop p = a :: l) : (Jvm.ClassFile.Reader.u1 : eR Nat) C p = .ok (a.toNat, p + 1) := by
  have hl : p < C.data.toList.length := by
    by_cases c : p < C.data.toList.length
    · exact c
    · rw [List.drop_eq_nil_of_le (by omega)] at h; cases h
  have hs : p < C.size := hl
  have hg : C[p] = a := by
    rw [List.drop_eq_getElem_cons hl] at h
    exact (List.cons.inj h).1
  show (do if h : p < C.size then do set (p + 1); Pure.pure C[p].toNat else MonadExcept.throw (Jvm.ClassFile.HasTruncated.truncated p) : eR Nat) C p = _
  rw [dif_pos hs]
  show Except.ok (C[p].toNat, p + 1) = _
  rw [hg]
theorem eR_u2 (h : C.data.toList.drop p = a :: b :: l) : (Jvm.ClassFile.Reader.u2 : eR Nat) C p = .ok (a.toNat * 256 + b.toNat, p + 2) := by
  show ((Jvm.ClassFile.Reader.u1 : eR Nat) >>= fun hi => (Jvm.ClassFile.Reader.u1 : eR Nat) >>= fun lo => (Pure.pure (hi * 256 + lo) : eR Nat)) C p = _
  rw [eR_b (eR_u h), eR_b (eR_u (eR_d h))]; rfl
theorem eR_s1 (h : C.data.toList.drop p = a :: l) : (Jvm.ClassFile.Reader.s1 : eR Int) C p = .ok (Jvm.ClassFile.Reader.signed 8 a.toNat, p + 1) := by
  show (do let (x, s) ← (Jvm.ClassFile.Reader.u1 : eR Nat) C p; Except.ok (Jvm.ClassFile.Reader.signed 8 x, s) : Except Jvm.ClassFile.DecodeError (Int × Nat)) = _
  rw [eR_u h]; rfl
theorem eR_s2 (h : C.data.toList.drop p = a :: b :: l) : (Jvm.ClassFile.Reader.s2 : eR Int) C p = .ok (Jvm.ClassFile.Reader.signed 16 (a.toNat * 256 + b.toNat), p + 2) := by
  show (do let (x, s) ← (Jvm.ClassFile.Reader.u2 : eR Nat) C p; Except.ok (Jvm.ClassFile.Reader.signed 16 x, s) : Except Jvm.ClassFile.DecodeError (Int × Nat)) = _
  rw [eR_u2 h]; rfl
theorem eM1 {f : Int → Instr} (h : C.data.toList.drop p = a :: l) : ((Jvm.ClassFile.Reader.s1 : eR Int) >>= fun x => (Pure.pure (f x) : eR Instr)) C p = .ok (f (Jvm.ClassFile.Reader.signed 8 a.toNat), p + 1) := by
  rw [eR_b (eR_s1 h)]; rfl
theorem eM2 {f : Int → Instr} (h : C.data.toList.drop p = a :: b :: l) : ((Jvm.ClassFile.Reader.s2 : eR Int) >>= fun x => (Pure.pure (f x) : eR Instr)) C p = .ok (f (Jvm.ClassFile.Reader.signed 16 (a.toNat * 256 + b.toNat)), p + 2) := by
  rw [eR_b (eR_s2 h)]; rfl
theorem eM3 {f : Nat → Instr} (h : C.data.toList.drop p = a :: l) : ((Jvm.ClassFile.Reader.u1 : eR Nat) >>= fun x => (Pure.pure (f x) : eR Instr)) C p = .ok (f a.toNat, p + 1) := by
  rw [eR_b (eR_u h)]; rfl
theorem eM4 {f : Nat → Instr} (h : C.data.toList.drop p = a :: b :: l) : ((Jvm.ClassFile.Reader.u2 : eR Nat) >>= fun x => (Pure.pure (f x) : eR Instr)) C p = .ok (f (a.toNat * 256 + b.toNat), p + 2) := by
  rw [eR_b (eR_u2 h)]; rfl
theorem eM5 {f : Nat → Int → Instr} (h : C.data.toList.drop p = a :: b :: l) : ((Jvm.ClassFile.Reader.u1 : eR Nat) >>= fun x => (Jvm.ClassFile.Reader.s1 : eR Int) >>= fun y => (Pure.pure (f x y) : eR Instr)) C p = .ok (f a.toNat (Jvm.ClassFile.Reader.signed 8 b.toNat), p + 2) := by
  rw [eR_b (eR_u h), eR_b (eR_s1 (eR_d h))]; rfl
end ENC
/-- what comes behind the opcode -/
def eK (pc : Nat) : {f : Nat → eR Instr // Jvm.ClassFile.Decoder.instr pc = ((Jvm.ClassFile.Reader.u1 : eR Nat) >>= f)} := ⟨_, rfl⟩
def eOk (k : Nat) (v w : Int) (o : Nat) (i : Instr) : Prop := match k with
  | 0 => ∀ (pc : Nat) (C : ByteArray) (p : Nat), (eK pc).1 o C p = .ok (i, p)
  | 1 => ∀ (pc : Nat) (C : ByteArray) (p : Nat) (b : UInt8) (l : List UInt8), C.data.toList.drop p = b :: l → Jvm.ClassFile.Reader.signed 8 b.toNat = v → (eK pc).1 o C p = .ok (i, p + 1)
  | 2 => ∀ (pc : Nat) (C : ByteArray) (p : Nat) (b c : UInt8) (l : List UInt8), C.data.toList.drop p = b :: c :: l → Jvm.ClassFile.Reader.signed 16 (b.toNat * 256 + c.toNat) = v → (eK pc).1 o C p = .ok (i, p + 2)
  | 3 => ∀ (pc : Nat) (C : ByteArray) (p : Nat) (b : UInt8) (l : List UInt8), C.data.toList.drop p = b :: l → (b.toNat : Int) = v → (eK pc).1 o C p = .ok (i, p + 1)
  | 4 => ∀ (pc : Nat) (C : ByteArray) (p : Nat) (b c : UInt8) (l : List UInt8), C.data.toList.drop p = b :: c :: l → ((b.toNat * 256 + c.toNat : Nat) : Int) = v → (eK pc).1 o C p = .ok (i, p + 2)
  | 5 => ∀ (pc : Nat) (C : ByteArray) (p : Nat) (b c : UInt8) (l : List UInt8), C.data.toList.drop p = b :: c :: l → (b.toNat : Int) = v → Jvm.ClassFile.Reader.signed 8 c.toNat = w → (eK pc).1 o C p = .ok (i, p + 2)
  | _ => True
def eCo (c : Jvm.ClassFile.Cond) : Nat := match c with
  | .eq => 0
  | .ne => 1
  | .lt => 2
  | .ge => 3
  | .gt => 4
  | .le => 5
abbrev eT : Type := Nat × Nat × Int × Int
/-- an opcode, what kind of operand it has, and the operand -/
def eOp (i : Instr) : Option eT := match i with
  | .iconst v => bif decide (-1 ≤ v) && decide (v ≤ 5) then some ((v + 3).toNat, 0, 0, 0) else none
  | .aload_n k => some (42 + k.val, 0, 0, 0)
  | .iload_n k => some (26 + k.val, 0, 0, 0)
  | .lload_n k => some (30 + k.val, 0, 0, 0)
  | .istore_n k => some (59 + k.val, 0, 0, 0)
  | .lstore_n k => some (63 + k.val, 0, 0, 0)
  | .astore_n k => some (75 + k.val, 0, 0, 0)
  | .getfield k => some (180, 4, (k : Int), 0)
  | .putfield k => some (181, 4, (k : Int), 0)
  | .getstatic k => some (178, 4, (k : Int), 0)
  | .putstatic k => some (179, 4, (k : Int), 0)
  | .invokevirtual k => some (182, 4, (k : Int), 0)
  | .invokespecial k => some (183, 4, (k : Int), 0)
  | .invokestatic k => some (184, 4, (k : Int), 0)
  | .new k => some (187, 4, (k : Int), 0)
  | .ldc_w k => some (19, 4, (k : Int), 0)
  | .ldc2_w k => some (20, 4, (k : Int), 0)
  | .ldc k => some (18, 3, (k : Int), 0)
  | .iload k => some (21, 3, (k : Int), 0)
  | .lload k => some (22, 3, (k : Int), 0)
  | .aload k => some (25, 3, (k : Int), 0)
  | .istore k => some (54, 3, (k : Int), 0)
  | .lstore k => some (55, 3, (k : Int), 0)
  | .astore k => some (58, 3, (k : Int), 0)
  | .if_icmp c v => some (159 + eCo c, 2, v, 0)
  | .ifCond c v => some (153 + eCo c, 2, v, 0)
  | .goto v => some (167, 2, v, 0)
  | .bipush v => some (16, 1, v, 0)
  | .sipush v => some (17, 2, v, 0)
  | .iinc k v => some (132, 5, (k : Int), v)
  | .lconst k => some (9 + k.val, 0, 0, 0)
  | .iadd => some (96, 0, 0, 0)
  | .iaload => some (46, 0, 0, 0)
  | .ireturn => some (172, 0, 0, 0)
  | .imul => some (104, 0, 0, 0)
  | .iastore => some (79, 0, 0, 0)
  | .return_ => some (177, 0, 0, 0)
  | .pop => some (87, 0, 0, 0)
  | .isub => some (100, 0, 0, 0)
  | .dup => some (89, 0, 0, 0)
  | .arraylength => some (190, 0, 0, 0)
  | .idiv => some (108, 0, 0, 0)
  | .iand => some (126, 0, 0, 0)
  | .ishl => some (120, 0, 0, 0)
  | .ior => some (128, 0, 0, 0)
  | .ishr => some (122, 0, 0, 0)
  | .dup2 => some (92, 0, 0, 0)
  | .baload => some (51, 0, 0, 0)
  | .irem => some (112, 0, 0, 0)
  | .lmul => some (105, 0, 0, 0)
  | .bastore => some (84, 0, 0, 0)
  | .laload => some (47, 0, 0, 0)
  | .iushr => some (124, 0, 0, 0)
  | .ladd => some (97, 0, 0, 0)
  | .i2l => some (133, 0, 0, 0)
  | .lastore => some (80, 0, 0, 0)
  | .ldiv => some (109, 0, 0, 0)
  | .lcmp => some (148, 0, 0, 0)
  | .l2i => some (136, 0, 0, 0)
  | .i2b => some (145, 0, 0, 0)
  | .i2c => some (146, 0, 0, 0)
  | .lshr => some (123, 0, 0, 0)
  | .lreturn => some (173, 0, 0, 0)
  | .ixor => some (130, 0, 0, 0)
  | .ineg => some (116, 0, 0, 0)
  | .areturn => some (176, 0, 0, 0)
  | .lsub => some (101, 0, 0, 0)
  | _ => none
theorem eOp_ok {i : Instr} {t : eT} (h : eOp i = some t) : eOk t.2.1 t.2.2.1 t.2.2.2 t.1 i := by
  cases i with
  | iadd =>
    have e := Option.some.inj (show some ((96, 0, 0, 0) : eT) = some t from h); subst e; clear h
    exact fun _ _ _ => rfl
  | iaload =>
    have e := Option.some.inj (show some ((46, 0, 0, 0) : eT) = some t from h); subst e; clear h
    exact fun _ _ _ => rfl
  | ireturn =>
    have e := Option.some.inj (show some ((172, 0, 0, 0) : eT) = some t from h); subst e; clear h
    exact fun _ _ _ => rfl
  | imul =>
    have e := Option.some.inj (show some ((104, 0, 0, 0) : eT) = some t from h); subst e; clear h
    exact fun _ _ _ => rfl
  | iastore =>
    have e := Option.some.inj (show some ((79, 0, 0, 0) : eT) = some t from h); subst e; clear h
    exact fun _ _ _ => rfl
  | return_ =>
    have e := Option.some.inj (show some ((177, 0, 0, 0) : eT) = some t from h); subst e; clear h
    exact fun _ _ _ => rfl
  | pop =>
    have e := Option.some.inj (show some ((87, 0, 0, 0) : eT) = some t from h); subst e; clear h
    exact fun _ _ _ => rfl
  | isub =>
    have e := Option.some.inj (show some ((100, 0, 0, 0) : eT) = some t from h); subst e; clear h
    exact fun _ _ _ => rfl
  | dup =>
    have e := Option.some.inj (show some ((89, 0, 0, 0) : eT) = some t from h); subst e; clear h
    exact fun _ _ _ => rfl
  | arraylength =>
    have e := Option.some.inj (show some ((190, 0, 0, 0) : eT) = some t from h); subst e; clear h
    exact fun _ _ _ => rfl
  | idiv =>
    have e := Option.some.inj (show some ((108, 0, 0, 0) : eT) = some t from h); subst e; clear h
    exact fun _ _ _ => rfl
  | iand =>
    have e := Option.some.inj (show some ((126, 0, 0, 0) : eT) = some t from h); subst e; clear h
    exact fun _ _ _ => rfl
  | ishl =>
    have e := Option.some.inj (show some ((120, 0, 0, 0) : eT) = some t from h); subst e; clear h
    exact fun _ _ _ => rfl
  | ior =>
    have e := Option.some.inj (show some ((128, 0, 0, 0) : eT) = some t from h); subst e; clear h
    exact fun _ _ _ => rfl
  | ishr =>
    have e := Option.some.inj (show some ((122, 0, 0, 0) : eT) = some t from h); subst e; clear h
    exact fun _ _ _ => rfl
  | dup2 =>
    have e := Option.some.inj (show some ((92, 0, 0, 0) : eT) = some t from h); subst e; clear h
    exact fun _ _ _ => rfl
  | baload =>
    have e := Option.some.inj (show some ((51, 0, 0, 0) : eT) = some t from h); subst e; clear h
    exact fun _ _ _ => rfl
  | irem =>
    have e := Option.some.inj (show some ((112, 0, 0, 0) : eT) = some t from h); subst e; clear h
    exact fun _ _ _ => rfl
  | lmul =>
    have e := Option.some.inj (show some ((105, 0, 0, 0) : eT) = some t from h); subst e; clear h
    exact fun _ _ _ => rfl
  | bastore =>
    have e := Option.some.inj (show some ((84, 0, 0, 0) : eT) = some t from h); subst e; clear h
    exact fun _ _ _ => rfl
  | laload =>
    have e := Option.some.inj (show some ((47, 0, 0, 0) : eT) = some t from h); subst e; clear h
    exact fun _ _ _ => rfl
  | iushr =>
    have e := Option.some.inj (show some ((124, 0, 0, 0) : eT) = some t from h); subst e; clear h
    exact fun _ _ _ => rfl
  | ladd =>
    have e := Option.some.inj (show some ((97, 0, 0, 0) : eT) = some t from h); subst e; clear h
    exact fun _ _ _ => rfl
  | i2l =>
    have e := Option.some.inj (show some ((133, 0, 0, 0) : eT) = some t from h); subst e; clear h
    exact fun _ _ _ => rfl
  | lastore =>
    have e := Option.some.inj (show some ((80, 0, 0, 0) : eT) = some t from h); subst e; clear h
    exact fun _ _ _ => rfl
  | ldiv =>
    have e := Option.some.inj (show some ((109, 0, 0, 0) : eT) = some t from h); subst e; clear h
    exact fun _ _ _ => rfl
  | lcmp =>
    have e := Option.some.inj (show some ((148, 0, 0, 0) : eT) = some t from h); subst e; clear h
    exact fun _ _ _ => rfl
  | l2i =>
    have e := Option.some.inj (show some ((136, 0, 0, 0) : eT) = some t from h); subst e; clear h
    exact fun _ _ _ => rfl
  | i2b =>
    have e := Option.some.inj (show some ((145, 0, 0, 0) : eT) = some t from h); subst e; clear h
    exact fun _ _ _ => rfl
  | i2c =>
    have e := Option.some.inj (show some ((146, 0, 0, 0) : eT) = some t from h); subst e; clear h
    exact fun _ _ _ => rfl
  | lshr =>
    have e := Option.some.inj (show some ((123, 0, 0, 0) : eT) = some t from h); subst e; clear h
    exact fun _ _ _ => rfl
  | lreturn =>
    have e := Option.some.inj (show some ((173, 0, 0, 0) : eT) = some t from h); subst e; clear h
    exact fun _ _ _ => rfl
  | ixor =>
    have e := Option.some.inj (show some ((130, 0, 0, 0) : eT) = some t from h); subst e; clear h
    exact fun _ _ _ => rfl
  | ineg =>
    have e := Option.some.inj (show some ((116, 0, 0, 0) : eT) = some t from h); subst e; clear h
    exact fun _ _ _ => rfl
  | areturn =>
    have e := Option.some.inj (show some ((176, 0, 0, 0) : eT) = some t from h); subst e; clear h
    exact fun _ _ _ => rfl
  | lsub =>
    have e := Option.some.inj (show some ((101, 0, 0, 0) : eT) = some t from h); subst e; clear h
    exact fun _ _ _ => rfl
  | aload_n k =>
    have e := Option.some.inj (show some ((42 + k.val, 0, 0, 0) : eT) = some t from h); subst e; clear h
    obtain ⟨n, hn⟩ := k
    rcases (show n = 0 ∨ n = 1 ∨ n = 2 ∨ n = 3 by omega) with rfl | rfl | rfl | rfl <;> exact fun _ _ _ => rfl
  | iload_n k =>
    have e := Option.some.inj (show some ((26 + k.val, 0, 0, 0) : eT) = some t from h); subst e; clear h
    obtain ⟨n, hn⟩ := k
    rcases (show n = 0 ∨ n = 1 ∨ n = 2 ∨ n = 3 by omega) with rfl | rfl | rfl | rfl <;> exact fun _ _ _ => rfl
  | lload_n k =>
    have e := Option.some.inj (show some ((30 + k.val, 0, 0, 0) : eT) = some t from h); subst e; clear h
    obtain ⟨n, hn⟩ := k
    rcases (show n = 0 ∨ n = 1 ∨ n = 2 ∨ n = 3 by omega) with rfl | rfl | rfl | rfl <;> exact fun _ _ _ => rfl
  | istore_n k =>
    have e := Option.some.inj (show some ((59 + k.val, 0, 0, 0) : eT) = some t from h); subst e; clear h
    obtain ⟨n, hn⟩ := k
    rcases (show n = 0 ∨ n = 1 ∨ n = 2 ∨ n = 3 by omega) with rfl | rfl | rfl | rfl <;> exact fun _ _ _ => rfl
  | lstore_n k =>
    have e := Option.some.inj (show some ((63 + k.val, 0, 0, 0) : eT) = some t from h); subst e; clear h
    obtain ⟨n, hn⟩ := k
    rcases (show n = 0 ∨ n = 1 ∨ n = 2 ∨ n = 3 by omega) with rfl | rfl | rfl | rfl <;> exact fun _ _ _ => rfl
  | astore_n k =>
    have e := Option.some.inj (show some ((75 + k.val, 0, 0, 0) : eT) = some t from h); subst e; clear h
    obtain ⟨n, hn⟩ := k
    rcases (show n = 0 ∨ n = 1 ∨ n = 2 ∨ n = 3 by omega) with rfl | rfl | rfl | rfl <;> exact fun _ _ _ => rfl
  | lconst k =>
    have e := Option.some.inj (show some ((9 + k.val, 0, 0, 0) : eT) = some t from h); subst e; clear h
    obtain ⟨n, hn⟩ := k
    rcases (show n = 0 ∨ n = 1 by omega) with rfl | rfl <;> exact fun _ _ _ => rfl
  | iconst v =>
    have h' : (bif decide (-1 ≤ v) && decide (v ≤ 5) then some (((v + 3).toNat, 0, 0, 0) : eT) else none) = some t := h
    by_cases g : -1 ≤ v ∧ v ≤ 5
    · rw [decide_eq_true g.1, decide_eq_true g.2] at h'
      have e := Option.some.inj (show some (((v + 3).toNat, 0, 0, 0) : eT) = some t from h'); subst e
      rcases (show v = -1 ∨ v = 0 ∨ v = 1 ∨ v = 2 ∨ v = 3 ∨ v = 4 ∨ v = 5 by omega) with rfl | rfl | rfl | rfl | rfl | rfl | rfl <;> exact fun _ _ _ => rfl
    · rw [show (decide (-1 ≤ v) && decide (v ≤ 5)) = false by rw [Bool.and_eq_false_iff, decide_eq_false_iff_not, decide_eq_false_iff_not]; omega] at h'
      cases h'
  | getfield k =>
    have e := Option.some.inj (show some ((180, 4, (k : Int), 0) : eT) = some t from h); subst e; clear h
    exact fun pc C p b c l h (e : ((b.toNat * 256 + c.toNat : Nat) : Int) = (k : Int)) => by
      have e2 : b.toNat * 256 + c.toNat = k := by omega
      subst e2
      exact eM4 (f := fun x => Jvm.ClassFile.Instr.getfield x) h
  | putfield k =>
    have e := Option.some.inj (show some ((181, 4, (k : Int), 0) : eT) = some t from h); subst e; clear h
    exact fun pc C p b c l h (e : ((b.toNat * 256 + c.toNat : Nat) : Int) = (k : Int)) => by
      have e2 : b.toNat * 256 + c.toNat = k := by omega
      subst e2
      exact eM4 (f := fun x => Jvm.ClassFile.Instr.putfield x) h
  | getstatic k =>
    have e := Option.some.inj (show some ((178, 4, (k : Int), 0) : eT) = some t from h); subst e; clear h
    exact fun pc C p b c l h (e : ((b.toNat * 256 + c.toNat : Nat) : Int) = (k : Int)) => by
      have e2 : b.toNat * 256 + c.toNat = k := by omega
      subst e2
      exact eM4 (f := fun x => Jvm.ClassFile.Instr.getstatic x) h
  | putstatic k =>
    have e := Option.some.inj (show some ((179, 4, (k : Int), 0) : eT) = some t from h); subst e; clear h
    exact fun pc C p b c l h (e : ((b.toNat * 256 + c.toNat : Nat) : Int) = (k : Int)) => by
      have e2 : b.toNat * 256 + c.toNat = k := by omega
      subst e2
      exact eM4 (f := fun x => Jvm.ClassFile.Instr.putstatic x) h
  | invokevirtual k =>
    have e := Option.some.inj (show some ((182, 4, (k : Int), 0) : eT) = some t from h); subst e; clear h
    exact fun pc C p b c l h (e : ((b.toNat * 256 + c.toNat : Nat) : Int) = (k : Int)) => by
      have e2 : b.toNat * 256 + c.toNat = k := by omega
      subst e2
      exact eM4 (f := fun x => Jvm.ClassFile.Instr.invokevirtual x) h
  | invokespecial k =>
    have e := Option.some.inj (show some ((183, 4, (k : Int), 0) : eT) = some t from h); subst e; clear h
    exact fun pc C p b c l h (e : ((b.toNat * 256 + c.toNat : Nat) : Int) = (k : Int)) => by
      have e2 : b.toNat * 256 + c.toNat = k := by omega
      subst e2
      exact eM4 (f := fun x => Jvm.ClassFile.Instr.invokespecial x) h
  | invokestatic k =>
    have e := Option.some.inj (show some ((184, 4, (k : Int), 0) : eT) = some t from h); subst e; clear h
    exact fun pc C p b c l h (e : ((b.toNat * 256 + c.toNat : Nat) : Int) = (k : Int)) => by
      have e2 : b.toNat * 256 + c.toNat = k := by omega
      subst e2
      exact eM4 (f := fun x => Jvm.ClassFile.Instr.invokestatic x) h
  | new k =>
    have e := Option.some.inj (show some ((187, 4, (k : Int), 0) : eT) = some t from h); subst e; clear h
    exact fun pc C p b c l h (e : ((b.toNat * 256 + c.toNat : Nat) : Int) = (k : Int)) => by
      have e2 : b.toNat * 256 + c.toNat = k := by omega
      subst e2
      exact eM4 (f := fun x => Jvm.ClassFile.Instr.new x) h
  | ldc_w k =>
    have e := Option.some.inj (show some ((19, 4, (k : Int), 0) : eT) = some t from h); subst e; clear h
    exact fun pc C p b c l h (e : ((b.toNat * 256 + c.toNat : Nat) : Int) = (k : Int)) => by
      have e2 : b.toNat * 256 + c.toNat = k := by omega
      subst e2
      exact eM4 (f := fun x => Jvm.ClassFile.Instr.ldc_w x) h
  | ldc2_w k =>
    have e := Option.some.inj (show some ((20, 4, (k : Int), 0) : eT) = some t from h); subst e; clear h
    exact fun pc C p b c l h (e : ((b.toNat * 256 + c.toNat : Nat) : Int) = (k : Int)) => by
      have e2 : b.toNat * 256 + c.toNat = k := by omega
      subst e2
      exact eM4 (f := fun x => Jvm.ClassFile.Instr.ldc2_w x) h
  | ldc k =>
    have e := Option.some.inj (show some ((18, 3, (k : Int), 0) : eT) = some t from h); subst e; clear h
    exact fun pc C p b l h (e : (b.toNat : Int) = (k : Int)) => by
      have e2 : b.toNat = k := by omega
      subst e2
      exact eM3 (f := fun x => Jvm.ClassFile.Instr.ldc x) h
  | iload k =>
    have e := Option.some.inj (show some ((21, 3, (k : Int), 0) : eT) = some t from h); subst e; clear h
    exact fun pc C p b l h (e : (b.toNat : Int) = (k : Int)) => by
      have e2 : b.toNat = k := by omega
      subst e2
      exact eM3 (f := fun x => Jvm.ClassFile.Instr.iload x) h
  | lload k =>
    have e := Option.some.inj (show some ((22, 3, (k : Int), 0) : eT) = some t from h); subst e; clear h
    exact fun pc C p b l h (e : (b.toNat : Int) = (k : Int)) => by
      have e2 : b.toNat = k := by omega
      subst e2
      exact eM3 (f := fun x => Jvm.ClassFile.Instr.lload x) h
  | aload k =>
    have e := Option.some.inj (show some ((25, 3, (k : Int), 0) : eT) = some t from h); subst e; clear h
    exact fun pc C p b l h (e : (b.toNat : Int) = (k : Int)) => by
      have e2 : b.toNat = k := by omega
      subst e2
      exact eM3 (f := fun x => Jvm.ClassFile.Instr.aload x) h
  | istore k =>
    have e := Option.some.inj (show some ((54, 3, (k : Int), 0) : eT) = some t from h); subst e; clear h
    exact fun pc C p b l h (e : (b.toNat : Int) = (k : Int)) => by
      have e2 : b.toNat = k := by omega
      subst e2
      exact eM3 (f := fun x => Jvm.ClassFile.Instr.istore x) h
  | lstore k =>
    have e := Option.some.inj (show some ((55, 3, (k : Int), 0) : eT) = some t from h); subst e; clear h
    exact fun pc C p b l h (e : (b.toNat : Int) = (k : Int)) => by
      have e2 : b.toNat = k := by omega
      subst e2
      exact eM3 (f := fun x => Jvm.ClassFile.Instr.lstore x) h
  | astore k =>
    have e := Option.some.inj (show some ((58, 3, (k : Int), 0) : eT) = some t from h); subst e; clear h
    exact fun pc C p b l h (e : (b.toNat : Int) = (k : Int)) => by
      have e2 : b.toNat = k := by omega
      subst e2
      exact eM3 (f := fun x => Jvm.ClassFile.Instr.astore x) h
  | if_icmp c v =>
    have e := Option.some.inj (show some ((159 + eCo c, 2, v, 0) : eT) = some t from h); subst e; clear h
    cases c <;> exact fun pc C p b c l h (e : Jvm.ClassFile.Reader.signed 16 (b.toNat * 256 + c.toNat) = v) => by
      subst e
      exact eM2 (f := fun x => Jvm.ClassFile.Instr.if_icmp _ x) h
  | ifCond c v =>
    have e := Option.some.inj (show some ((153 + eCo c, 2, v, 0) : eT) = some t from h); subst e; clear h
    cases c <;> exact fun pc C p b c l h (e : Jvm.ClassFile.Reader.signed 16 (b.toNat * 256 + c.toNat) = v) => by
      subst e
      exact eM2 (f := fun x => Jvm.ClassFile.Instr.ifCond _ x) h
  | goto v =>
    have e := Option.some.inj (show some ((167, 2, v, 0) : eT) = some t from h); subst e; clear h
    exact fun pc C p b c l h (e : Jvm.ClassFile.Reader.signed 16 (b.toNat * 256 + c.toNat) = v) => by
      subst e
      exact eM2 (f := fun x => Jvm.ClassFile.Instr.goto x) h
  | sipush v =>
    have e := Option.some.inj (show some ((17, 2, v, 0) : eT) = some t from h); subst e; clear h
    exact fun pc C p b c l h (e : Jvm.ClassFile.Reader.signed 16 (b.toNat * 256 + c.toNat) = v) => by
      subst e
      exact eM2 (f := fun x => Jvm.ClassFile.Instr.sipush x) h
  | bipush v =>
    have e := Option.some.inj (show some ((16, 1, v, 0) : eT) = some t from h); subst e; clear h
    exact fun pc C p b l h (e : Jvm.ClassFile.Reader.signed 8 b.toNat = v) => by
      subst e
      exact eM1 (f := fun x => Jvm.ClassFile.Instr.bipush x) h
  | iinc k v =>
    have e := Option.some.inj (show some ((132, 5, (k : Int), v) : eT) = some t from h); subst e; clear h
    exact fun pc C p b c l h (e : (b.toNat : Int) = (k : Int)) (e3 : Jvm.ClassFile.Reader.signed 8 c.toNat = v) => by
      have e2 : b.toNat = k := by omega
      subst e2
      subst e3
      exact eM5 (f := fun x y => Jvm.ClassFile.Instr.iinc x y) h
  | _ => exact nomatch (show (none : Option eT) = some t from h)
/-- the operand off the bytes, and how many they are -/
def eS2 (k : Nat) (v w : Int) (l : List UInt8) : Option (Nat × List UInt8) := match k, l with
  | 0, l => some (0, l)
  | 1, b :: l => cond (decide (Jvm.ClassFile.Reader.signed 8 b.toNat = v)) (some (1, l)) none
  | 2, b :: c :: l => cond (decide (Jvm.ClassFile.Reader.signed 16 (b.toNat * 256 + c.toNat) = v)) (some (2, l)) none
  | 3, b :: l => cond (decide ((b.toNat : Int) = v)) (some (1, l)) none
  | 4, b :: c :: l => cond (decide (((b.toNat * 256 + c.toNat : Nat) : Int) = v)) (some (2, l)) none
  | 5, b :: c :: l => cond (decide ((b.toNat : Int) = v) && decide (Jvm.ClassFile.Reader.signed 8 c.toNat = w)) (some (2, l)) none
  | _, _ => none
theorem eCnd {α : Type} {b : Bool} {x y : α} (h : cond b (some x) none = some y) : b = true ∧ x = y := by
  cases b
  · cases h
  · exact ⟨rfl, Option.some.inj h⟩
theorem eS2_ok {v w : Int} {o : Nat} {i : Instr} {C : ByteArray} {pc p n : Nat} {l' : List UInt8} : ∀ (k : Nat) (l : List UInt8), eOk k v w o i → eS2 k v w l = some (n, l') → C.data.toList.drop p = l → (eK pc).1 o C p = .ok (i, p + n) ∧ C.data.toList.drop (p + n) = l'
  | 0, l, z, h, hl => by
    have e := Option.some.inj (show some (0, l) = some (n, l') from h)
    cases e
    exact ⟨z pc C p, hl⟩
  | 1, b :: l, z, h, hl => by
    obtain ⟨g, e⟩ := eCnd (show cond (decide (Jvm.ClassFile.Reader.signed 8 b.toNat = v)) (some (1, l)) none = some (n, l') from h)
    cases e
    exact ⟨z pc C p b _ hl (of_decide_eq_true g), eR_d hl⟩
  | 2, b :: c :: l, z, h, hl => by
    obtain ⟨g, e⟩ := eCnd (show cond (decide (Jvm.ClassFile.Reader.signed 16 (b.toNat * 256 + c.toNat) = v)) (some (2, l)) none = some (n, l') from h)
    cases e
    exact ⟨z pc C p b c _ hl (of_decide_eq_true g), eR_d (eR_d hl)⟩
  | 3, b :: l, z, h, hl => by
    obtain ⟨g, e⟩ := eCnd (show cond (decide ((b.toNat : Int) = v)) (some (1, l)) none = some (n, l') from h)
    cases e
    exact ⟨z pc C p b _ hl (of_decide_eq_true g), eR_d hl⟩
  | 4, b :: c :: l, z, h, hl => by
    obtain ⟨g, e⟩ := eCnd (show cond (decide (((b.toNat * 256 + c.toNat : Nat) : Int) = v)) (some (2, l)) none = some (n, l') from h)
    cases e
    exact ⟨z pc C p b c _ hl (of_decide_eq_true g), eR_d (eR_d hl)⟩
  | 5, b :: c :: l, z, h, hl => by
    obtain ⟨g, e⟩ := eCnd (show cond (decide ((b.toNat : Int) = v) && decide (Jvm.ClassFile.Reader.signed 8 c.toNat = w)) (some (2, l)) none = some (n, l') from h)
    rw [Bool.and_eq_true] at g
    cases e
    exact ⟨z pc C p b c _ hl (of_decide_eq_true g.1) (of_decide_eq_true g.2), eR_d (eR_d hl)⟩
  | 1, [], _, h, _ => nomatch (show (none : Option (Nat × List UInt8)) = some (n, l') from h)
  | 2, [], _, h, _ => nomatch (show (none : Option (Nat × List UInt8)) = some (n, l') from h)
  | 2, [_], _, h, _ => nomatch (show (none : Option (Nat × List UInt8)) = some (n, l') from h)
  | 3, [], _, h, _ => nomatch (show (none : Option (Nat × List UInt8)) = some (n, l') from h)
  | 4, [], _, h, _ => nomatch (show (none : Option (Nat × List UInt8)) = some (n, l') from h)
  | 4, [_], _, h, _ => nomatch (show (none : Option (Nat × List UInt8)) = some (n, l') from h)
  | 5, [], _, h, _ => nomatch (show (none : Option (Nat × List UInt8)) = some (n, l') from h)
  | 5, [_], _, h, _ => nomatch (show (none : Option (Nat × List UInt8)) = some (n, l') from h)
  | _ + 6, l, _, h, _ => by cases l <;> exact nomatch (show (none : Option (Nat × List UInt8)) = some (n, l') from h)
def eSt (i : Instr) (l : List UInt8) : Option (Nat × List UInt8) := match eOp i with
  | none => none
  | some t => match l with
    | [] => none
    | a :: l1 => bif Nat.beq a.toNat t.1 then eS2 t.2.1 t.2.2.1 t.2.2.2 l1 else none
theorem eSt_ok {i : Instr} {l l' : List UInt8} {n pc : Nat} {C : ByteArray} (h : eSt i l = some (n, l')) (hl : C.data.toList.drop pc = l) : decode C pc = .ok (i, 1 + n) ∧ C.data.toList.drop (pc + 1 + n) = l' := by
  unfold eSt at h
  cases ht : eOp i with
  | none => rw [ht] at h; cases h
  | some t =>
    rw [ht] at h
    cases l with
    | nil => cases h
    | cons a l1 =>
      have h1 : (bif Nat.beq a.toNat t.1 then eS2 t.2.1 t.2.2.1 t.2.2.2 l1 else none) = some (n, l') := h
      cases hb : Nat.beq a.toNat t.1 with
      | false => rw [hb] at h1; cases h1
      | true =>
        rw [hb] at h1
        have ha : a.toNat = t.1 := Nat.eq_of_beq_eq_true hb
        obtain ⟨k1, k2⟩ := eS2_ok (C := C) (pc := pc) (p := pc + 1) t.2.1 l1 (eOp_ok ht) h1 (eR_d hl)
        have k3 : (Jvm.ClassFile.Decoder.instr pc : eR Instr) C pc = .ok (i, pc + 1 + n) := by
          rw [(eK pc).2, eR_b (eR_u hl), ha]; exact k1
        refine ⟨?_, k2⟩
        show (do let (j, s) ← (Jvm.ClassFile.Decoder.instr pc : eR Instr) C pc; Pure.pure (j, s - pc) : Except Jvm.ClassFile.DecodeError (Instr × Nat)) = _
        rw [k3]
        show Except.ok (i, pc + 1 + n - pc) = _
        rw [show pc + 1 + n - pc = 1 + n by omega]
/-- all of a method -/
def encL (C : ByteArray) : List (Nat × am_I) → List UInt8 → Nat → Bool
  | [], _, _ => true
  | q :: r, l, pos => Nat.beq q.1 pos && (match eSt q.2.1 l with
    | some (n, l') => Nat.beq q.2.2.1 (pos + 1 + n) && encL C r l' q.2.2.1
    | none => decide (decode C pos = .ok (q.2.1, q.2.2.1 - pos)) && (Nat.ble pos q.2.2.1 && encL C r (l.drop (q.2.2.1 - pos)) q.2.2.1))
theorem eL_ok {C : ByteArray} : ∀ (p : List (Nat × am_I)) (l : List UInt8) (pos : Nat), encL C p l pos = true → C.data.toList.drop pos = l → ∀ q ∈ p, decode C q.1 = .ok (q.2.1, q.2.2.1 - q.1)
  | [], _, _, _, _ => fun q hq => by cases hq
  | q :: r, l, pos, h, hl => by
    have h' : (Nat.beq q.1 pos && (match eSt q.2.1 l with
      | some (n, l') => Nat.beq q.2.2.1 (pos + 1 + n) && encL C r l' q.2.2.1
      | none => decide (decode C pos = .ok (q.2.1, q.2.2.1 - pos)) && (Nat.ble pos q.2.2.1 && encL C r (l.drop (q.2.2.1 - pos)) q.2.2.1))) = true := h
    rw [Bool.and_eq_true] at h'
    obtain ⟨h1, h2⟩ := h'
    have e1 : q.1 = pos := Nat.eq_of_beq_eq_true h1
    have key : decode C q.1 = .ok (q.2.1, q.2.2.1 - q.1) ∧ ∃ l2, encL C r l2 q.2.2.1 = true ∧ C.data.toList.drop q.2.2.1 = l2 := by
      cases hs : eSt q.2.1 l with
      | some nl =>
        obtain ⟨n, l'⟩ := nl
        rw [hs] at h2
        have h3 : (Nat.beq q.2.2.1 (pos + 1 + n) && encL C r l' q.2.2.1) = true := h2
        rw [Bool.and_eq_true] at h3
        obtain ⟨x, y⟩ := eSt_ok hs hl
        have e2 : q.2.2.1 = pos + 1 + n := Nat.eq_of_beq_eq_true h3.1
        refine ⟨?_, l', h3.2, ?_⟩
        · rw [e1, e2, x, show pos + 1 + n - pos = 1 + n by omega]
        · rw [e2]; exact y
      | none =>
        rw [hs] at h2
        have h3 : (decide (decode C pos = .ok (q.2.1, q.2.2.1 - pos)) && (Nat.ble pos q.2.2.1 && encL C r (l.drop (q.2.2.1 - pos)) q.2.2.1)) = true := h2
        rw [Bool.and_eq_true, Bool.and_eq_true] at h3
        obtain ⟨x, y, z⟩ := h3
        have y2 : pos ≤ q.2.2.1 := Nat.le_of_ble_eq_true y
        refine ⟨by rw [e1]; exact of_decide_eq_true x, _, z, ?_⟩
        rw [← hl, List.drop_drop, show pos + (q.2.2.1 - pos) = q.2.2.1 by omega]
    intro q' hq'
    rcases List.mem_cons.mp hq' with e | hm
    · rw [e]; exact key.1
    · obtain ⟨l2, k1, k2⟩ := key.2
      exact eL_ok r l2 _ k1 k2 q' hm
def eLk (B : Nat → Option am_N) (b : am_N) (sites : List (String × Nat × Nat)) (nests : am_nst) (s : Nat) (p : List (Nat × am_I)) : Bool :=
  encL b.2.1 p (b.2.1.data.toList.drop s) s && p.all (fun q => am_okc B b.1.cls (decide (b.1.name = "<init>")) sites nests q.1 q.2)
theorem eLk_ok {B : Nat → Option am_N} {b : am_N} {sites : List (String × Nat × Nat)} {nests : am_nst} {s : Nat} {p : List (Nat × am_I)} (h : eLk B b sites nests s p = true) : p.all (am_oki B b sites nests) = true := by
  unfold eLk at h
  rw [Bool.and_eq_true] at h
  obtain ⟨h1, h2⟩ := h
  refine List.all_eq_true.mpr (fun q hq => ?_)
  show (decide (decode b.2.1 q.1 = .ok (q.2.1, q.2.2.1 - q.1)) && am_okc B b.1.cls (decide (b.1.name = "<init>")) sites nests q.1 q.2) = true
  rw [Bool.and_eq_true]
  exact ⟨decide_eq_true (eL_ok p _ s h1 rfl q hq), List.all_eq_true.mp h2 q hq⟩
