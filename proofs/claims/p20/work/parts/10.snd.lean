/-! THE SMALL MACHINE IS SOUND: what it runs, the machine runs -/
/-- what lies outside is named from 1000 on -/
def am_HX (X : am_X) : Prop := (∀ r, (∃ q, X.1 r = some q) → 1000 ≤ r) ∧ (∀ r k v, X.2.1 r k = some v → 1000 ≤ r ∧ am_vld 0 v = true) ∧ (∀ k v, X.2.2 k = some v → am_vld 0 v = true)
/-- the frame in which a run goes on -/
def am_FX (P : Nat → Option am_M) (B : Nat → Option am_N) (sites : List (String × Nat × Nat)) (nests : am_nst) (X : am_X) (D : va_G) (cy : Nat → ClassId) (b0 : Nat) (d mi : Nat) (ad : Nat → Nat) (b : am_N) (mt : am_M) (p : Program) (R : Room) (s : State) (m : MethodId) (args : Array Value) (meth : Method) (c : Code) : Prop :=
  P mi = some mt ∧ am_HI B sites nests b mt ∧ p.tables.exec = Jvm.exec ∧ c.code = b.2.1 ∧ c.maxLocals = mt.2.2.1 ∧ s.vm.findClass b.1.cls = some m.cls ∧ (b.1.name = "<init>" → meth.name = "<init>") ∧ (∀ w ∈ am_TW, w.before args s = true) ∧ va_K D vwCl (am_ty cy) s ∧ am_XO sites nests X ad b0 s ∧ d + 1 ≤ R.frames ∧ 64 * (d + 1) ≤ R.locals ∧ b0 ≤ s.heap.size
def am_RETd (D : va_G) (cy : Nat → ClassId) (b0 : Nat) (ad : Nat → Nat) (b : am_N) (mt : am_M) (w : am_W) (r : Option AV) (w1 : am_W) (p : Program) (l : Launch) (e : Env) (R : Room) (s : State) (m : MethodId) (args : Array Value) (below : List Frame) (meth : Method) (c : Code) (C S : Nat) (Q : State → Prop) : Prop :=
  ∀ (ad' : Nat → Nat) (ls' : Array Slot) (H' : Heap) (locs' : List Loc) (pc' : Nat) (i' : Instr), (∀ k, ¬ (w.1.length ≤ k ∧ k < w1.1.length) → ad' k = ad k) → va_P D vwCl (am_ws ad' cy w1) H' → va_D (am_A b0) (am_ws ad' cy w1) → va_S (am_A b0) s.heap H' locs' → decode b.2.1 pc' = .ok (i', 1) → am_rt mt.2.2.2 i' r → W p l e R s m args below meth c H' locs' C S Q (F0 m pc' ls' (r.toList.map (co ad')))
def am_Snd (P : Nat → Option am_M) (F : Nat → Option (List (Option (Option Nat)))) (B : Nat → Option am_N) (sites : List (String × Nat × Nat)) (nests : am_nst) (X : am_X) (D : va_G) (cy : Nat → ClassId) (b0 : Nat) (l : Launch) (n : Nat) : Prop :=
  ∀ (d mi pc : Nat) (L : am_L) (st : List AV) (w : am_W) (r : Option AV) (w1 : am_W), am_ex P F X n d mi pc L st w = some (r, w1) →
  ∀ (p : Program) (e : Env) (R : Room) (s : State) (m : MethodId) (args : Array Value) (below : List Frame) (meth : Method) (c : Code) (H : Heap) (locs : List Loc) (cells slots C S : Nat) (Q : State → Prop) (ls : Array Slot) (ad : Nat → Nat) (b : am_N) (mt : am_M),
  am_FX P B sites nests X D cy b0 d mi ad b mt p R s m args meth c → am_LR ad ls mt.2.2.1 L → va_P D vwCl (am_ws ad cy w) H → va_D (am_A b0) (am_ws ad cy w) → va_S (am_A b0) s.heap H locs →
  cells + w1.1.length = C + w.1.length → slots + am_sl w1.1 = S + am_sl w.1 → C ≤ R.cells → S ≤ R.slots → am_RETd D cy b0 ad b mt w r w1 p l e R s m args below meth c C S Q →
  W p l e R s m args below meth c H locs cells slots Q (F0 m pc ls (st.map (co ad)))
section MET
variable {P : Nat → Option am_M} {F : Nat → Option (List (Option (Option Nat)))} {B : Nat → Option am_N} {sites : List (String × Nat × Nat)} {nests : am_nst} {X : am_X} {D : va_G} {cy : Nat → ClassId} {b0 : Nat} {l : Launch}
def am_wsM (b : am_N) (mt : am_M) : List Jvm.Cond := Jvm.Cond.code b.1 b.2.1 mt.2.2.1 b.2.2.1 :: am_TW
theorem am_ofW {y : MethodName} {ws ws' : List Jvm.Cond} {rm : Room} {Pc : Array Value → State → Prop} {Qc : Array Value → State → Outcome → State → Prop} {mc ms : Nat} {free : Addr → Prop} {cc : ByteArray} {maxL : Nat} {ret : Option FieldType}
    (hy : plainFor y = true) (hw : ws = Jvm.Cond.code y cc maxL ret :: ws')
    (body : ∀ p e s m args below meth c s₁, BodyLoose p l y (headSpec ws rm) cc maxL ret e s m args below meth c s₁ → c.maxLocals = maxL → Pc args s →
      W p l e (headSpec ws rm).room s m args below meth c s.heap [] 0 0 (MQ below Qc args s mc ms free) (entryFrame m args maxL)) : Met l y ws rm Pc Qc mc ms free := by
  refine MetFree.of_bodySF (code := cc) (maxLocals := maxL) (ret := ret) hy ?_ ?_
  · intro args s m h hn
    obtain ⟨meth, c, h1, h2, h3, h4, h5, h6, -, -⟩ := Cond.code_spec hn (atoms_spec (ws := ws) h _ (by rw [hw]; exact List.mem_cons_self))
    exact ⟨meth, c, h1, h2, h3, h4, h5, h6⟩
  · intro p e s m args below meth c s₁ B hml hP _
    have hh0 : s₁.heap = s.heap := by rw [B.state]; rfl
    obtain ⟨t, a1, o, b1, b2, b3⟩ := body p e s m args below meth c s₁ B hml hP s₁ hh0 (Stand.of_body B)
    exact ⟨t, o, a1, b1, b2, ⟨b3.1, b3.2⟩⟩
set_option maxHeartbeats 4000000 in
theorem am_met {n d mi : Nat} {b : am_N} {mt : am_M} {ps : List Nat} {a : List AV} {w w1 : am_W} {r : Option AV} {ad : Nat → Nat} (ih : am_Snd P F B sites nests X D cy b0 l n) (hP0 : P mi = some mt) (hm : am_okm b mt ps = true) (hI : am_HI B sites nests b mt) (hrun : am_ex P F X n d mi 0 (am_ent a mt.2.2.1) [] w = some (r, w1)) (hc : ∀ v ∈ a, am_cat v = 1) (hn : a.length = mt.2.1) :
    Met l b.1 (am_wsM b mt) (am_rm d (w1.1.length - w.1.length) (am_sl w1.1 - am_sl w.1)) (va_Pc (a.map (co ad)) (am_PRE D cy sites nests X b0 ad w)) (am_POST D cy b0 ad w r w1) (w1.1.length - w.1.length) (am_sl w1.1 - am_sl w.1) (am_A b0) := by
  unfold am_okm at hm
  split at hm
  · obtain ⟨-, hm⟩ := Bool.and_eq_true_iff.mp hm
    obtain ⟨-, hm⟩ := Bool.and_eq_true_iff.mp hm
    obtain ⟨-, hm⟩ := Bool.and_eq_true_iff.mp hm
    obtain ⟨hm, hk⟩ := Bool.and_eq_true_iff.mp hm
    obtain ⟨-, -, hpl, hle, -⟩ := of_decide_eq_true hm
    have hg := am_grow _ _ _ _ _ _ _ _ _ hrun
    refine am_ofW (cc := b.2.1) (maxL := mt.2.2.1) (ret := b.2.2.1) hpl rfl ?_
    intro p e s m args below meth c s₁ BB hml hv
    obtain ⟨rfl, hb0, hP, hD, hK, hX⟩ := hv
    have hts := atoms_spec (ws := am_wsM b mt) BB.pre
    have hown : s.vm.findClass b.1.cls = some m.cls := findClass_of_methodNamed BB.named
    have hnm : meth.name = b.1.name := (name_of_methodNamed BB.named BB.method).1
    rw [lg_entry_eq]
    refine ih d mi 0 _ [] w r w1 hrun p e _ s m _ below meth c s.heap [] 0 0 (w1.1.length - w.1.length) (am_sl w1.1 - am_sl w.1) _ _ ad b mt ⟨hP0, hI, BB.exec, BB.bytes, hml, hown, fun z => hnm.trans z, fun w hw => hts w (List.mem_cons_of_mem _ hw), hK, hX, Nat.le_refl _, Nat.le_refl _, hb0⟩ (am_entry hc (by rw [hn]; exact hle)) hP hD va_S.rf (by omega) (by omega) (Nat.le_refl _) (Nat.le_refl _) ?_
    intro ad' ls' H' locs' pc' i' he hP' hD' hS' hd hrt
    exact am_ret BB.exec BB.bytes BB.returns hk BB.notSynchronized he hP' hD' hS' hd hrt
  · cases hm
theorem am_split {st : List AV} {na : Nat} (hn : 1 ≤ na) (hl : na ≤ st.length) : ∃ (v0 : AV) (As : List AV), (st.take na).reverse = v0 :: As ∧ st = As.reverse ++ v0 :: st.drop na ∧ st[na - 1]? = some v0 ∧ As.length = na - 1 := by
  cases hr : (st.take na).reverse with
  | nil =>
    have := congrArg List.length hr
    rw [List.length_reverse, List.length_take, Nat.min_eq_left hl] at this
    simp at this
    omega
  | cons v0 As =>
    have h1 : st.take na = As.reverse ++ [v0] := by
      have := congrArg List.reverse hr
      rw [List.reverse_reverse, List.reverse_cons] at this
      exact this
    have hlen : As.length = na - 1 := by
      have := congrArg List.length hr
      rw [List.length_reverse, List.length_take, Nat.min_eq_left hl] at this
      simp at this
      omega
    refine ⟨v0, As, rfl, ?_, ?_, hlen⟩
    · have := List.take_append_drop na st
      rw [h1] at this
      rw [List.append_assoc] at this
      exact this.symm
    · have h2 : (st.take na)[na - 1]? = st[na - 1]? := List.getElem?_take_of_lt (by omega)
      rw [← h2, h1, List.getElem?_append_right (by rw [List.length_reverse]; omega), List.length_reverse, hlen]
      simp
end MET
