/-! what is looked at of a program, and what that says -/
/-- a method by its number: its name, bytes, answer's type, kind (0 static, 1 called by its object's class, 2 a constructor) -/
abbrev am_N : Type := MethodName × ByteArray × Option FieldType × Nat
def am_tyF (k : Nat) : FieldType := match k with
  | 0 => .int
  | 1 => .byte
  | 2 => .long
  | _ => .boolean
abbrev am_nst : Type := List (String × Nat × MethodName × String)
def am_okc (B : Nat → Option am_N) (own : String) (ini : Bool) (sites : List (String × Nat × Nat)) (nests : am_nst) (pc : Nat) (I : am_I) : Bool := match I with
  | (i, nx, tg, cv) => match i with
    | .goto off => decide (nx = pc + 3 ∧ (pc : Int) + off = (tg.headD 0 : Nat))
    | .if_icmp _ off => decide (nx = pc + 3 ∧ (pc : Int) + off = (tg.headD 0 : Nat))
    | .ifCond _ off => decide (nx = pc + 3 ∧ (pc : Int) + off = (tg.headD 0 : Nat))
    | .tableswitch dflt lo hi offs => decide ((pc : Int) + dflt = (tg.headD 0 : Nat) ∧ offs.size = (hi - lo + 1).toNat ∧ ∀ j, j < offs.size → (pc : Int) + offs.getD j 0 = (tg.getD (j + 1) 0 : Nat))
    | .ireturn => decide (nx = pc + 1)
    | .lreturn => decide (nx = pc + 1)
    | .return_ => decide (nx = pc + 1)
    | .new k => decide (nx = pc + 3) && (match tg with
      | [ci, p1, p2, p3] => (match vwCl[ci]? with
        | some q => wok p1 (.classLink own k q.1) && (wok p2 (.instantiable q.1 q.2.2) && wok p3 (.initialized q.1))
        | none => false)
      | _ => false)
    | .newarray t => decide (nx = pc + 2) && (match tg with
      | [ty, p1] => decide (newarray.typeOf t = am_tyF ty) && (Nat.blt ty 4 && wok p1 (.arrayClass (newarray.typeOf t)))
      | _ => false)
    | .invokevirtual k => decide (nx = pc + 3) && (match tg with
      | mj :: pl :: tl => (match B mj with
        | some b => Nat.beq b.2.2.2 1 && ((match vwCl[tl.headD 99]? with
            | some q => decide (q.1 = b.1.cls)
            | none => Nat.beq (tl.headD 99) 99 && decide (b.1.cls = "java/lang/String")) && wok pl (.methodLink own k b.1))
        | none => false)
      | _ => false)
    | .invokestatic k => if Nat.blt (tg.headD 0) 9000 = true then decide (nx = pc + 3) && (match tg with
      | mj :: pl :: tl => (match B mj with
        | some b => Nat.beq b.2.2.2 0 && (match tl with
          | [] => wok pl (.methodLink own k b.1)
          | _ => nests.any (fun q => decide (q.1 = own ∧ q.2.1 = k ∧ q.2.2.1 = b.1)))
        | none => false)
      | _ => false) else am_oks own ini sites pc i nx tg cv
    | .invokespecial k => if Nat.blt (tg.headD 0) 9000 = true then decide (nx = pc + 3) && (match tg with
      | mj :: pl :: tl => (match B mj with
        | some b => Nat.beq b.2.2.2 2 && (match tl with
          | [_] => wok pl (.methodLink own k b.1)
          | _ => nests.any (fun q => decide (q.1 = own ∧ q.2.1 = k ∧ q.2.2.1 = b.1)))
        | none => false)
      | _ => false) else am_oks own ini sites pc i nx tg cv
    | j => am_oks own ini sites pc j nx tg cv
def am_rkt (k : Nat) (t : Option FieldType) : Bool := match k, t with
  | 0, none => true
  | 1, some .int => true
  | 2, some .boolean => true
  | 3, some .long => true
  | 4, some .char => true
  | 5, some .byte => true
  | _, _ => false
/-- one instruction: what the bytes say, and the check -/
def am_oki (B : Nat → Option am_N) (b : am_N) (sites : List (String × Nat × Nat)) (nests : am_nst) (q : Nat × am_I) : Bool :=
  decide (decode b.2.1 q.1 = .ok (q.2.1, q.2.2.1 - q.1)) && am_okc B b.1.cls (decide (b.1.name = "<init>")) sites nests q.1 q.2
/-- a method without its instructions; ps: the places of its words -/
def am_okm (b : am_N) (mt : am_M) (ps : List Nat) : Bool := match ps with
  | [p1, p2, p3, p4] => wok p1 (.code b.1 b.2.1 mt.2.2.1 b.2.2.1) && (wok p2 (.initialized b.1.cls) && ((match b.2.2.2 with
      | 0 => wok p3 (.static b.1)
      | 1 => wok p3 (.instanceMethod b.1) && wok p4 (.selects b.1.cls b.1 b.1)
      | _ => wok p3 (.instanceMethod b.1) && decide (b.1.name = "<init>" ∧ b.2.2.1 = none)) && (decide ((b.1.cls ≠ "java/lang/invoke/MethodHandle" ∧ b.1.cls ≠ "java/lang/invoke/VarHandle" ∧ (parseMethodDescriptor b.1.desc).map (fun d => d.parameters.length) = some (mt.2.1 - (if b.2.2.2 = 0 then 0 else 1))) ∧ (b.2.2.2 = 0 ∨ 1 ≤ mt.2.1) ∧ plainFor b.1 = true ∧ mt.2.1 ≤ mt.2.2.1 ∧ mt.2.2.1 ≤ 40) && am_rkt mt.2.2.2 b.2.2.1)))
  | _ => false
/-- the instructions alone, as the law's own are looked at -/
def am_HI (B : Nat → Option am_N) (sites : List (String × Nat × Nat)) (nests : am_nst) (b : am_N) (mt : am_M) : Prop := ∀ q ∈ mt.1, am_oki B b sites nests q = true
/-- the whole program is looked at -/
def am_HP (P : Nat → Option am_M) (B : Nat → Option am_N) (sites : List (String × Nat × Nat)) (nests : am_nst) : Prop := ∀ mi b, B mi = some b → ∃ mt ps, P mi = some mt ∧ am_okm b mt ps = true ∧ am_HI B sites nests b mt
/-- the classes -/
def am_HC (F : Nat → Option (List (Option (Option Nat)))) : Prop := (∀ q ∈ vwCl, ∀ w ∈ u_ws q.1 q.2.1 q.2.2, w ∈ am_TW) ∧ (∀ q ∈ vwCl, ∃ ty : Nat → FieldType, ∀ k, k < q.2.2 → parseFieldDescriptor (q.2.1 k).2.2.1 = some (ty k)) ∧ (∀ q ∈ vwCl, ∀ a, a < q.2.2 → ∀ b, b < q.2.2 → a ≠ b → (q.2.1 a).2.1 ≠ (q.2.1 b).2.1) ∧
  ∀ ci q, vwCl[ci]? = some q → ∃ (ty : Nat → FieldType) (fs : List (Option (Option Nat))), F ci = some fs ∧ fs.length = q.2.2 ∧ (∀ k, k < q.2.2 → parseFieldDescriptor (q.2.1 k).2.2.1 = some (ty k)) ∧ ∀ j, j < q.2.2 → (fs[j]? = some none ∧ defaultValue (ty j) = .int 0) ∨ (fs[j]? = some (some none) ∧ defaultValue (ty j) = .null)
theorem am_fet_mem : ∀ (l : List (Nat × am_I)) (pc : Nat) (I : am_I), am_fet l pc = some I → (pc, I) ∈ l := by
  intro l
  induction l with
  | nil => intro pc I h; cases h
  | cons a l ih =>
    intro pc I h
    obtain ⟨q, i⟩ := a
    unfold am_fet at h
    cases hb : Nat.beq q pc
    · rw [hb] at h; exact List.mem_cons_of_mem _ (ih pc I h)
    · rw [hb] at h
      have e := Nat.eq_of_beq_eq_true hb
      subst e
      cases h
      exact List.mem_cons_self
/-- the addresses of cells that there are stay: values and worlds stay -/
theorem co_ad {ad ad' : Nat → Nat} {n : Nat} (he : ∀ k, k < n ∨ 1000 ≤ k → ad' k = ad k) {v : AV} (hv : am_vld n v = true) : co ad' v = co ad v := by
  rcases v with x | x | x
  · rfl
  · rfl
  · cases x with
    | none => rfl
    | some k =>
      simp [am_vld] at hv
      show va_rf (some (ad' k)) = va_rf (some (ad k))
      rw [he k hv]
theorem am_ws_ad {ad ad' : Nat → Nat} {cy : Nat → ClassId} {w : am_W} (he : ∀ k, k < w.1.length ∨ 1000 ≤ k → ad' k = ad k) (hv : am_vS w.1.length w.1 = true) : am_ws ad' cy w = am_ws ad cy w := by
  apply List.ext_getElem?
  intro k
  rw [am_ws_get, am_ws_get]
  cases hk : w.1[k]? with
  | none => rfl
  | some t =>
    have hlt : k < w.1.length := (List.getElem?_eq_some_iff.mp hk).1
    have ht := List.all_eq_true.mp hv t (List.mem_of_getElem? hk)
    show some (ad' k, am_cell ad' cy k t w.2) = some (ad k, am_cell ad cy k t w.2)
    rw [he k (Or.inl hlt)]
    rcases t with ⟨ty, n⟩ | ⟨ci, fs⟩
    · rfl
    · congr 2
      show Sum.inr (ci, _) = Sum.inr (ci, _)
      congr 2
      apply List.ext_getElem?
      intro j
      rw [List.getElem?_mapIdx, List.getElem?_mapIdx]
      cases hj : fs[j]? with
      | none => rfl
      | some o =>
        have ho := List.all_eq_true.mp ht o (List.mem_of_getElem? hj)
        rcases o with _ | _ | q
        · rfl
        · rfl
        · simp at ho
          show some (va_rf (some (ad' q))) = some (va_rf (some (ad q)))
          rw [he q ho]
theorem am_LR.ad {ad ad' : Nat → Nat} {n : Nat} {ls : Array Slot} {nL : Nat} {L : am_L} (h : am_LR ad ls nL L) (he : ∀ k, k < n ∨ 1000 ≤ k → ad' k = ad k) (hv : L.all (fun o => match o with
  | some v => am_vld n v
  | none => true) = true) : am_LR ad' ls nL L := by
  refine ⟨h.1, h.2.1, h.2.2.1, fun i v hi => ?_⟩
  have := List.all_eq_true.mp hv _ (List.mem_of_getElem? hi)
  rw [co_ad he this]
  exact h.2.2.2 i v hi
theorem am_st_ad {ad ad' : Nat → Nat} {n : Nat} {st : List AV} (he : ∀ k, k < n ∨ 1000 ≤ k → ad' k = ad k) (hv : st.all (am_vld n) = true) : st.map (co ad') = st.map (co ad) :=
  List.map_congr_left (fun v h => co_ad he (List.all_eq_true.mp hv v h))
theorem am_vw_inv {w : am_W} {L : am_L} {st : List AV} (h : am_vw w L st = true) : w.1.length < 900 ∧ am_vS w.1.length w.1 = true ∧ L.all (fun o => match o with
  | some v => am_vld w.1.length v
  | none => true) = true ∧ st.all (am_vld w.1.length) = true := by
  unfold am_vw at h
  obtain ⟨h1, h⟩ := Bool.and_eq_true_iff.mp h
  obtain ⟨h2, h⟩ := Bool.and_eq_true_iff.mp h
  obtain ⟨h3, h4⟩ := Bool.and_eq_true_iff.mp h
  exact ⟨am_blt h1, h2, h3, h4⟩
