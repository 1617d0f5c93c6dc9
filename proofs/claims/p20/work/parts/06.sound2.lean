section SMP
variable {p : Program} {l : Launch} {e : Env} {R : Room} {s : State} {m : MethodId} {args : Array Value} {below : List Frame} {meth : Method} {c : Code} {H : Heap} {locs : List Loc} {cells slots : Nat} {Q : State → Prop}
variable {cc : ByteArray} {pc nx nL : Nat} {ls : Array Slot} {ad : Nat → Nat} {cy : Nat → ClassId} {D : va_G} {b0 : Nat} {L L' : am_L} {st st' : List AV} {w w' : am_W} {X : am_X} {sites : List (String × Nat × Nat)} {nests : List (String × Nat × MethodName × String)} {own : String} {ini : Bool} {tg : List Nat} {cv : Int}
theorem am_fld {ad : Nat → Nat} {cy : Nat → ClassId} {w : am_W} {r ci : Nat} {fs : List (Option (Option Nat))} (h : w.1[r]? = some (.inr (ci, fs))) : (am_ws ad cy w)[r]? = some (ad r, .inr (ci, fs.mapIdx (fun j o => match o with
    | none => .int (Int32.ofInt (w.2 r j))
    | some r => va_rf (r.map ad)))) := by
  rw [am_ws_get, h]; rfl
theorem am_fld_int {ad : Nat → Nat} {cy : Nat → ClassId} {w : am_W} {r ci k : Nat} {x : Int} {fs : List (Option (Option Nat))} (h : w.1[r]? = some (.inr (ci, fs))) (hk : fs[k]? = some none) : am_ws ad cy (w.1, u2 w.2 r k x) = (am_ws ad cy w).set r (ad r, .inr (ci, (fs.mapIdx (fun j o => match o with
    | none => .int (Int32.ofInt (w.2 r j))
    | some r => va_rf (r.map ad))).set k (.int (Int32.ofInt x)))) := by
  rw [am_ws_dat h (u2 w.2 r k x) (am_u2_ne _ _ _ _)]
  have e : am_cell ad cy r (.inr (ci, fs)) (u2 w.2 r k x) = .inr (ci, (fs.mapIdx (fun j o => match o with
    | none => .int (Int32.ofInt (w.2 r j))
    | some r => va_rf (r.map ad))).set k (.int (Int32.ofInt x))) := by
    show Sum.inr (ci, _) = Sum.inr (ci, _)
    congr 2
    apply List.ext_getElem?
    intro q
    by_cases hq : q = k
    · subst hq
      rw [List.getElem?_set_self (by rw [List.length_mapIdx]; exact (List.getElem?_eq_some_iff.mp hk).1), List.getElem?_mapIdx, hk]
      show some (Value.int (Int32.ofInt (u2 w.2 r q x r q))) = _
      unfold u2
      rw [if_pos ⟨rfl, rfl⟩]
    · rw [List.getElem?_set_ne (Ne.symm hq), List.getElem?_mapIdx, List.getElem?_mapIdx]
      cases fs[q]? with
      | none => rfl
      | some o =>
        cases o with
        | some r => rfl
        | none =>
          show some (Value.int (Int32.ofInt (u2 w.2 r k x r q))) = some (Value.int (Int32.ofInt (w.2 r q)))
          unfold u2
          rw [if_neg (fun z => hq z.2)]
  rw [e]
theorem am_fld_ref {ad : Nat → Nat} {cy : Nat → ClassId} {w : am_W} {r ci k : Nat} {x : Option Nat} {fs : List (Option (Option Nat))} {o : Option Nat} (h : w.1[r]? = some (.inr (ci, fs))) (hk : fs[k]? = some (some o)) : am_ws ad cy (w.1.set r (.inr (ci, fs.set k (some x))), w.2) = (am_ws ad cy w).set r (ad r, .inr (ci, (fs.mapIdx (fun j o => match o with
    | none => .int (Int32.ofInt (w.2 r j))
    | some r => va_rf (r.map ad))).set k (va_rf (x.map ad)))) := by
  rw [am_ws_set h (.inr (ci, fs.set k (some x))) w.2 (fun _ _ _ => rfl)]
  have e : am_cell ad cy r (.inr (ci, fs.set k (some x))) w.2 = .inr (ci, (fs.mapIdx (fun j o => match o with
    | none => .int (Int32.ofInt (w.2 r j))
    | some r => va_rf (r.map ad))).set k (va_rf (x.map ad))) := by
    show Sum.inr (ci, _) = Sum.inr (ci, _)
    congr 2
    apply List.ext_getElem?
    intro q
    by_cases hq : q = k
    · subst hq
      have hl := (List.getElem?_eq_some_iff.mp hk).1
      rw [List.getElem?_set_self (by rw [List.length_mapIdx]; exact hl), List.getElem?_mapIdx, List.getElem?_set_self hl]
      rfl
    · rw [List.getElem?_set_ne (Ne.symm hq), List.getElem?_mapIdx, List.getElem?_mapIdx, List.getElem?_set_ne (Ne.symm hq)]
      cases fs[q]? with
      | none => rfl
      | some o => cases o <;> rfl
  rw [e]
/-- one simple instruction is what the machine does -/
theorem am_smp_snd {i : Instr} (hx : p.tables.exec = Jvm.exec) (hb : c.code = cc) (hml : c.maxLocals = nL) (hts : ∀ w ∈ am_TW, w.before args s = true) (hown : s.vm.findClass own = some m.cls) (hini : ini = true → meth.name = "<init>") (hcl : ∀ q ∈ vwCl, ∀ w ∈ u_ws q.1 q.2.1 q.2.2, w ∈ am_TW) (hty : ∀ q ∈ vwCl, ∃ ty : Nat → FieldType, ∀ k, k < q.2.2 → parseFieldDescriptor (q.2.1 k).2.2.1 = some (ty k)) (hnm : ∀ q ∈ vwCl, ∀ a, a < q.2.2 → ∀ b, b < q.2.2 → a ≠ b → (q.2.1 a).2.1 ≠ (q.2.1 b).2.1)
    (hK : va_K D vwCl (am_ty cy) s) (hX : am_XO sites nests X ad b0 s) (hR : 1 ≤ R.frames ∧ 64 ≤ R.locals)
    (hL : am_LR ad ls nL L) (hP : va_P D vwCl (am_ws ad cy w) H) (hD : va_D (am_A b0) (am_ws ad cy w)) (hS : va_S (am_A b0) s.heap H locs)
    (hdec : decode cc pc = .ok (i, nx - pc)) (hok : am_oks own ini sites pc i nx tg cv = true) (h : am_smp X i tg cv L st w = some (L', st', w'))
    (k : am_G p l e R s m args below meth c cells slots Q nL ad cy D b0 nx L' st' w') : W p l e R s m args below meth c H locs cells slots Q (F0 m pc ls (st.map (co ad))) := by
  cases i
  case iconst n =>
    have hn := of_decide_eq_true hok
    cases h
    have hd := am_dec hdec hn.1
    obtain ⟨rfl, hv⟩ := hn
    exact lv_iconst hx hb hd hv (k ls H locs hL hP hD hS)
  case bipush n =>
    have hn := of_decide_eq_true hok
    cases h
    have hd := am_dec hdec hn.1
    obtain ⟨rfl, hv⟩ := hn
    exact lv_bipush hx hb hd hv (k ls H locs hL hP hD hS)
  case sipush n =>
    have hn := of_decide_eq_true hok
    cases h
    have hd := am_dec hdec hn.1
    obtain ⟨rfl, hv⟩ := hn
    exact lv_sipush hx hb hd hv (k ls H locs hL hP hD hS)
  case lconst n =>
    have hn := of_decide_eq_true hok
    cases h
    have hd := am_dec hdec hn.1
    obtain ⟨rfl, hv⟩ := hn
    exact lv_lconst hx hb hd hv (k ls H locs hL hP hD hS)
  case ldc2_w j =>
    obtain ⟨hn, hw⟩ := Bool.and_eq_true_iff.mp hok
    have hn := of_decide_eq_true hn
    cases h
    have hd := am_dec hdec hn
    subst hn
    exact lv_ldc2 hx hb hown (hts _ (wok_in hw)) hd (k ls H locs hL hP hD hS)
  case ldc_w j =>
    obtain ⟨hn, hw⟩ := Bool.and_eq_true_iff.mp hok
    have hn := of_decide_eq_true hn
    cases h
    have hd := am_dec hdec hn
    subst hn
    exact lv_ldcw hx hb hown (hts _ (wok_in hw)) hd (k ls H locs hL hP hD hS)
  case ldc j =>
    obtain ⟨hn, hw⟩ := Bool.and_eq_true_iff.mp hok
    have hn := of_decide_eq_true hn
    have hd := am_dec hdec hn
    subst hn
    match tg, h, hw with
    | [pl], h, hw =>
      cases h
      exact lv_ldc hx hb hown (hts _ (wok_in hw)) hd (k ls H locs hL hP hD hS)
    | [_, q], h, hw =>
      cases h
      obtain ⟨tx, hz⟩ := hX.2.2.2.1 _ (of_decide_eq_true hw)
      exact va_ldcS hx hb hown hz hd (k ls H locs hL hP hD hS)
  case iload j =>
    have hn := of_decide_eq_true hok
    have hd := am_dec hdec hn.1
    obtain ⟨rfl, rfl⟩ := hn
    simp only [am_smp] at h
    split at h
    · rename_i x hx2
      cases h
      exact lv_iload hx hb hd (hL.at hx2) (k ls H locs hL hP hD hS)
    · cases h
  case iload_n j =>
    have hn := of_decide_eq_true hok
    have hd := am_dec hdec hn.1
    obtain ⟨rfl, hj⟩ := hn
    simp only [am_smp] at h
    split at h
    · rename_i x hx2
      cases h
      exact lv_iload_n hx hb hd hj.symm (hL.at hx2) (k ls H locs hL hP hD hS)
    · cases h
  case lload j =>
    have hn := of_decide_eq_true hok
    have hd := am_dec hdec hn.1
    obtain ⟨rfl, rfl⟩ := hn
    simp only [am_smp] at h
    split at h
    · rename_i x hx2
      cases h
      exact lv_lload hx hb hd (hL.at hx2) (k ls H locs hL hP hD hS)
    · cases h
  case lload_n j =>
    have hn := of_decide_eq_true hok
    have hd := am_dec hdec hn.1
    obtain ⟨rfl, hj⟩ := hn
    simp only [am_smp] at h
    split at h
    · rename_i x hx2
      cases h
      exact lv_lload_n hx hb hd hj.symm (hL.at hx2) (k ls H locs hL hP hD hS)
    · cases h
  case aload j =>
    have hn := of_decide_eq_true hok
    have hd := am_dec hdec hn.1
    obtain ⟨rfl, rfl⟩ := hn
    simp only [am_smp] at h
    split at h
    · rename_i x hx2
      cases h
      exact lv_aload hx hb hd (hL.at hx2) (k ls H locs hL hP hD hS)
    · cases h
  case aload_n j =>
    have hn := of_decide_eq_true hok
    have hd := am_dec hdec hn.1
    obtain ⟨rfl, hj⟩ := hn
    simp only [am_smp] at h
    split at h
    · rename_i x hx2
      cases h
      exact lv_aload_n hx hb hd hj.symm (hL.at hx2) (k ls H locs hL hP hD hS)
    · cases h
  case istore j =>
    have hn := of_decide_eq_true hok
    have hd := am_dec hdec hn.1
    obtain ⟨rfl, rfl⟩ := hn
    simp only [am_smp] at h
    split at h
    · obtain ⟨h1, h2⟩ := am_cond_some h
      cases h2
      exact lv_istore hx hb hd hL.has (by rw [← hL.2.2.1]; exact am_blt h1) rfl (fun ls' hl => k ls' H locs (hL.st hl) hP hD hS)
    · cases h
  case istore_n j =>
    have hn := of_decide_eq_true hok
    have hd := am_dec hdec hn.1
    obtain ⟨rfl, hj⟩ := hn
    simp only [am_smp] at h
    split at h
    · obtain ⟨h1, h2⟩ := am_cond_some h
      cases h2
      exact lv_istore_n hx hb hd hj.symm hL.has (by rw [← hL.2.2.1]; exact am_blt h1) rfl (fun ls' hl => k ls' H locs (hL.st hl) hP hD hS)
    · cases h
  case astore j =>
    have hn := of_decide_eq_true hok
    have hd := am_dec hdec hn.1
    obtain ⟨rfl, rfl⟩ := hn
    simp only [am_smp] at h
    split at h
    · obtain ⟨h1, h2⟩ := am_cond_some h
      cases h2
      exact lv_astore hx hb hd hL.has (by rw [← hL.2.2.1]; exact am_blt h1) rfl (fun ls' hl => k ls' H locs (hL.st hl) hP hD hS)
    · cases h
  case astore_n j =>
    have hn := of_decide_eq_true hok
    have hd := am_dec hdec hn.1
    obtain ⟨rfl, hj⟩ := hn
    simp only [am_smp] at h
    split at h
    · obtain ⟨h1, h2⟩ := am_cond_some h
      cases h2
      exact lv_astore_n hx hb hd hj.symm hL.has (by rw [← hL.2.2.1]; exact am_blt h1) rfl (fun ls' hl => k ls' H locs (hL.st hl) hP hD hS)
    · cases h
  case lstore j =>
    have hn := of_decide_eq_true hok
    have hd := am_dec hdec hn.1
    obtain ⟨rfl, rfl⟩ := hn
    simp only [am_smp] at h
    split at h
    · obtain ⟨h1, h2⟩ := am_cond_some h
      cases h2
      exact lv_lstore hx hb hd hL.has (by rw [← hL.2.2.1]; exact am_blt h1) rfl (fun ls' hl => k ls' H locs (hL.st2 hl) hP hD hS)
    · cases h
  case lstore_n j =>
    have hn := of_decide_eq_true hok
    have hd := am_dec hdec hn.1
    obtain ⟨rfl, hj⟩ := hn
    simp only [am_smp] at h
    split at h
    · obtain ⟨h1, h2⟩ := am_cond_some h
      cases h2
      exact lv_lstore_n hx hb hd hj.symm hL.has (by rw [← hL.2.2.1]; exact am_blt h1) rfl (fun ls' hl => k ls' H locs (hL.st2 hl) hP hD hS)
    · cases h
  case iinc j n =>
    have hn := of_decide_eq_true hok
    have hd := am_dec hdec hn.1
    obtain ⟨rfl, rfl, rfl⟩ := hn
    simp only [am_smp] at h
    split at h
    · rename_i x hx2
      obtain ⟨h1, h2⟩ := am_cond_some h
      cases h2
      have hm : (tg.headD 0, co ad (.inl x)) ∈ am_lv ad L := am_lv_mem.mpr ⟨_, am_ld_some hx2, rfl⟩
      obtain ⟨q, hq⟩ := List.getElem?_of_mem hm
      exact lv_iinc (v := Int32.ofInt (x + n)) hx hb hd hL.has hq (n_add x n).symm (by rw [← hL.2.2.1]; exact am_blt h1) rfl (fun ls' hl => k ls' H locs (hL.st hl) hP hD hS)
    · cases h
  case iadd =>
    have hn := of_decide_eq_true hok
    have hd := am_dec hdec hn
    subst hn
    simp only [am_smp] at h
    split at h
    · rename_i b a r
      cases h
      exact lv_iadd hx hb hd (by rw [← n_add]; exact k ls H locs hL hP hD hS)
    · cases h
  case isub =>
    have hn := of_decide_eq_true hok
    have hd := am_dec hdec hn
    subst hn
    simp only [am_smp] at h
    split at h
    · cases h
      exact lv_isub hx hb hd (by rw [← n_sub]; exact k ls H locs hL hP hD hS)
    · cases h
  case imul =>
    have hn := of_decide_eq_true hok
    have hd := am_dec hdec hn
    subst hn
    simp only [am_smp] at h
    split at h
    · cases h
      exact lv_imul hx hb hd (by rw [← n_mul]; exact k ls H locs hL hP hD hS)
    · cases h
  case ineg =>
    have hn := of_decide_eq_true hok
    have hd := am_dec hdec hn
    subst hn
    simp only [am_smp] at h
    split at h
    · cases h
      exact lv_ineg hx hb hd (by rw [← n_neg]; exact k ls H locs hL hP hD hS)
    · cases h
  case idiv =>
    have hn := of_decide_eq_true hok
    have hd := am_dec hdec hn
    subst hn
    simp only [am_smp] at h
    split at h
    · obtain ⟨h1, h2⟩ := am_ite_none h
      cases h2
      exact lv_idiv hx hb hd (n_nz.mpr h1) (by rw [← n_div]; exact k ls H locs hL hP hD hS)
    · cases h
  case irem =>
    have hn := of_decide_eq_true hok
    have hd := am_dec hdec hn
    subst hn
    simp only [am_smp] at h
    split at h
    · obtain ⟨h1, h2⟩ := am_ite_none h
      cases h2
      exact lv_irem hx hb hd (n_nz.mpr h1) (by rw [← n_rem]; exact k ls H locs hL hP hD hS)
    · cases h
  case iand =>
    have hn := of_decide_eq_true hok
    have hd := am_dec hdec hn
    subst hn
    simp only [am_smp] at h
    split at h
    · cases h
      exact lv_iand hx hb hd (by rw [← n_of (_ &&& _)]; exact k ls H locs hL hP hD hS)
    · cases h
  case ior =>
    have hn := of_decide_eq_true hok
    have hd := am_dec hdec hn
    subst hn
    simp only [am_smp] at h
    split at h
    · cases h
      exact lv_ior hx hb hd (by rw [← n_of (_ ||| _)]; exact k ls H locs hL hP hD hS)
    · cases h
  case ixor =>
    have hn := of_decide_eq_true hok
    have hd := am_dec hdec hn
    subst hn
    simp only [am_smp] at h
    split at h
    · cases h
      exact lv_ixor hx hb hd (by rw [← n_of (_ ^^^ _)]; exact k ls H locs hL hP hD hS)
    · cases h
  case ishl =>
    have hn := of_decide_eq_true hok
    have hd := am_dec hdec hn
    subst hn
    simp only [am_smp] at h
    split at h
    · cases h
      exact lv_ishl hx hb hd (by rw [← n_of (_ <<< _)]; exact k ls H locs hL hP hD hS)
    · cases h
  case ishr =>
    have hn := of_decide_eq_true hok
    have hd := am_dec hdec hn
    subst hn
    simp only [am_smp] at h
    split at h
    · cases h
      exact lv_ishr hx hb hd (by rw [← n_of (_ >>> _)]; exact k ls H locs hL hP hD hS)
    · cases h
  case iushr =>
    have hn := of_decide_eq_true hok
    have hd := am_dec hdec hn
    subst hn
    simp only [am_smp] at h
    split at h
    · cases h
      exact lv_iushr hx hb hd (n_of _).symm (k ls H locs hL hP hD hS)
    · cases h
  case ladd =>
    have hn := of_decide_eq_true hok
    have hd := am_dec hdec hn
    subst hn
    simp only [am_smp] at h
    split at h
    · cases h
      exact lv_ladd hx hb hd (by rw [← n_add64]; exact k ls H locs hL hP hD hS)
    · cases h
  case lsub =>
    have hn := of_decide_eq_true hok
    have hd := am_dec hdec hn
    subst hn
    simp only [am_smp] at h
    split at h
    · cases h
      exact lv_lsub hx hb hd (by rw [← n_sub64]; exact k ls H locs hL hP hD hS)
    · cases h
  case lmul =>
    have hn := of_decide_eq_true hok
    have hd := am_dec hdec hn
    subst hn
    simp only [am_smp] at h
    split at h
    · cases h
      exact lv_lmul hx hb hd (by rw [← n_mul64]; exact k ls H locs hL hP hD hS)
    · cases h
  case ldiv =>
    have hn := of_decide_eq_true hok
    have hd := am_dec hdec hn
    subst hn
    simp only [am_smp] at h
    split at h
    · obtain ⟨h1, h2⟩ := am_ite_none h
      cases h2
      exact lv_ldiv hx hb hd (n_nz64.mpr h1) (by rw [← n_div64]; exact k ls H locs hL hP hD hS)
    · cases h
  case lshr =>
    have hn := of_decide_eq_true hok
    have hd := am_dec hdec hn
    subst hn
    simp only [am_smp] at h
    split at h
    · cases h
      exact lv_lshr hx hb hd (n_of64 _).symm (k ls H locs hL hP hD hS)
    · cases h
  case lcmp =>
    have hn := of_decide_eq_true hok
    have hd := am_dec hdec hn
    subst hn
    simp only [am_smp] at h
    split at h
    · rename_i b a r
      cases h
      refine W.lcmp hx hb hd ?_
      have e : lg_cmp (Int64.ofInt a) (Int64.ofInt b) = Int32.ofInt (if wl b < wl a then 1 else if wl a = wl b then 0 else -1) := by
        unfold lg_cmp
        by_cases g1 : wl b < wl a
        · rw [if_pos g1, if_pos (show Int64.ofInt a > Int64.ofInt b from n_lt64.mpr g1)]; rfl
        · rw [if_neg g1, if_neg (show ¬ Int64.ofInt a > Int64.ofInt b from fun z => g1 (n_lt64.mp z))]
          by_cases g2 : wl a = wl b
          · rw [if_pos g2, if_pos (n_eq64.mpr g2)]; rfl
          · rw [if_neg g2, if_neg (fun z => g2 (n_eq64.mp z))]; rfl
      rw [e]
      exact k ls H locs hL hP hD hS
    · cases h
  case i2l =>
    have hn := of_decide_eq_true hok
    have hd := am_dec hdec hn
    subst hn
    simp only [am_smp] at h
    split at h
    · cases h
      exact lv_i2l hx hb hd (n_i2l _) (k ls H locs hL hP hD hS)
    · cases h
  case l2i =>
    have hn := of_decide_eq_true hok
    have hd := am_dec hdec hn
    subst hn
    simp only [am_smp] at h
    split at h
    · cases h
      exact lv_l2i hx hb hd (n_l2i _) (k ls H locs hL hP hD hS)
    · cases h
  case i2b =>
    have hn := of_decide_eq_true hok
    have hd := am_dec hdec hn
    subst hn
    simp only [am_smp] at h
    split at h
    · cases h
      exact lv_i2b hx hb hd (n_of _).symm (k ls H locs hL hP hD hS)
    · cases h
  case i2c =>
    have hn := of_decide_eq_true hok
    have hd := am_dec hdec hn
    subst hn
    simp only [am_smp] at h
    split at h
    · cases h
      exact lv_i2c hx hb hd (n_of _).symm (k ls H locs hL hP hD hS)
    · cases h
  case dup =>
    have hn := of_decide_eq_true hok
    have hd := am_dec hdec hn
    subst hn
    simp only [am_smp] at h
    split at h
    · rename_i v r
      obtain ⟨h1, h2⟩ := am_cond_some h
      cases h2
      exact lv_dup hx hb hd (by rw [co_cat]; exact Nat.eq_of_beq_eq_true h1) (k ls H locs hL hP hD hS)
    · cases h
  case pop =>
    have hn := of_decide_eq_true hok
    have hd := am_dec hdec hn
    subst hn
    simp only [am_smp] at h
    split at h
    · rename_i v r
      obtain ⟨h1, h2⟩ := am_cond_some h
      cases h2
      exact lv_pop hx hb hd (by rw [co_cat]; exact Nat.eq_of_beq_eq_true h1) (k ls H locs hL hP hD hS)
    · cases h
  case dup2 =>
    have hn := of_decide_eq_true hok
    have hd := am_dec hdec hn
    subst hn
    simp only [am_smp] at h
    split at h
    · rename_i v u r
      by_cases h1 : Nat.beq (am_cat v) 2 = true
      · rw [h1] at h
        cases h
        exact lv_dup2_2 hx hb hd (by rw [co_cat]; exact Nat.eq_of_beq_eq_true h1) (k ls H locs hL hP hD hS)
      · rw [Bool.not_eq_true] at h1
        rw [h1] at h
        obtain ⟨h2, h3⟩ := am_cond_some h
        cases h3
        have h4 : am_cat v = 1 := by
          rcases v with x | x | x
          · rfl
          · exact absurd h1 (by simp [am_cat])
          · rfl
        exact lv_dup2_11 hx hb hd (by rw [co_cat]; exact h4) (by rw [co_cat]; exact Nat.eq_of_beq_eq_true h2) (k ls H locs hL hP hD hS)
    · rename_i v
      obtain ⟨h1, h2⟩ := am_cond_some h
      cases h2
      exact lv_dup2_2 hx hb hd (by rw [co_cat]; exact Nat.eq_of_beq_eq_true h1) (k ls H locs hL hP hD hS)
    · cases h
  case arraylength =>
    have hn := of_decide_eq_true hok
    have hd := am_dec hdec hn
    subst hn
    simp only [am_smp] at h
    split at h
    · rename_i r rest
      split at h
      · rename_i ty n f hr
        obtain ⟨g1, g2⟩ := am_cond_some h
        cases g2
        have g1 := am_blt g1
        obtain ⟨hlt, ⟨h1, -⟩ | ⟨-, h2⟩⟩ := am_arr_some hr
        · have g3 : ty = 0 ∨ ty = 1 ∨ ty = 2 ∨ ty = 3 := by omega
          rcases g3 with rfl | rfl | rfl | rfl
          · exact va_alen hx hb hK hP r 0 (am_cell0 h1) rfl (n_nat n) hd (k ls H locs hL hP hD hS)
          · exact va_alen hx hb hK hP r 1 (am_cell1 h1) rfl (n_nat n) hd (k ls H locs hL hP hD hS)
          · exact va_alen hx hb hK hP r 2 (am_cell2 h1) rfl (n_nat n) hd (k ls H locs hL hP hD hS)
          · exact va_alen hx hb hK hP r 3 (am_cell3 h1) rfl (n_nat n) hd (k ls H locs hL hP hD hS)
        · exact va_tlen hx hb (hX.1 r ty n f h2).2 hS (n_nat n) hd (k ls H locs hL hP hD hS)
      · cases h
    · cases h
  case iaload =>
    have hn := of_decide_eq_true hok
    have hd := am_dec hdec hn
    subst hn
    simp only [am_smp] at h
    split at h
    · rename_i j r rest
      split at h
      · rename_i n f hr
        obtain ⟨g1, g2⟩ := am_ite_some h
        cases g2
        obtain ⟨hlt, ⟨h1, h2⟩ | ⟨-, h2⟩⟩ := am_arr_some hr
        · obtain ⟨i1, i2⟩ := n_idx hlt g1.1 g1.2
          subst h2
          exact va_iald hx hb hK hP r 0 (am_cell0 h1) rfl i1 hd (by rw [i2]; exact k ls H locs hL hP hD hS)
        · obtain ⟨i1, i2⟩ := n_idx hlt g1.1 g1.2
          exact va_ti hx hb (hX.1 r 0 n f h2).2 hS i1 (congrArg (fun q => Value.int (Int32.ofInt (f q))) i2) hd (k ls H locs hL hP hD hS)
      · cases h
    · cases h
  case baload =>
    have hn := of_decide_eq_true hok
    have hd := am_dec hdec hn
    subst hn
    simp only [am_smp] at h
    split at h
    · rename_i j r rest
      split at h
      · rename_i n f hr
        obtain ⟨g1, g2⟩ := am_ite_some h
        cases g2
        obtain ⟨hlt, ⟨h1, h2⟩ | ⟨-, h2⟩⟩ := am_arr_some hr
        · obtain ⟨i1, i2⟩ := n_idx hlt g1.1 g1.2
          subst h2
          exact va_bald hx hb hK hP r 1 (am_cell1 h1) rfl i1 hd (by rw [i2]; exact k ls H locs hL hP hD hS)
        · obtain ⟨i1, i2⟩ := n_idx hlt g1.1 g1.2
          exact va_tb hx hb (hX.1 r 1 n f h2).2 hS i1 (congrArg (fun q => Value.int (Int32.ofInt (f q))) i2) hd (k ls H locs hL hP hD hS)
      · rename_i n f hr
        obtain ⟨g1, g2⟩ := am_ite_some h
        cases g2
        obtain ⟨hlt, ⟨h1, h2⟩ | ⟨-, h2⟩⟩ := am_arr_some hr
        · obtain ⟨i1, i2⟩ := n_idx hlt g1.1 g1.2
          subst h2
          exact va_zald hx hb hK hP r 3 (am_cell3 h1) rfl i1 hd (by rw [i2]; exact k ls H locs hL hP hD hS)
        · exact absurd (hX.1 r 3 n f h2).1 (by decide)
      · cases h
    · cases h
  case laload =>
    have hn := of_decide_eq_true hok
    have hd := am_dec hdec hn
    subst hn
    simp only [am_smp] at h
    split at h
    · rename_i j r rest
      split at h
      · rename_i n f hr
        obtain ⟨g1, g2⟩ := am_ite_some h
        cases g2
        obtain ⟨hlt, ⟨h1, h2⟩ | ⟨-, h2⟩⟩ := am_arr_some hr
        · obtain ⟨i1, i2⟩ := n_idx hlt g1.1 g1.2
          subst h2
          exact va_lald hx hb hK hP r 2 (am_cell2 h1) rfl i1 hd (by rw [i2]; exact k ls H locs hL hP hD hS)
        · exact absurd (hX.1 r 2 n f h2).1 (by decide)
      · cases h
    · cases h
  case iastore =>
    have hn := of_decide_eq_true hok
    have hd := am_dec hdec hn
    subst hn
    simp only [am_smp] at h
    split at h
    · rename_i x j r rest
      split at h
      · rename_i n hr
        obtain ⟨g1, g2⟩ := am_ite_some h
        cases g2
        obtain ⟨h1, hlt⟩ := am_arw_some hr
        obtain ⟨i1, i2⟩ := n_idx hlt g1.1 g1.2
        have e : am_ws ad cy (w.1, u2 w.2 r j.toNat (wr x)) = (am_ws ad cy w).set r (ad r, .inl (cy 0, n, .inl (upd (fun q => Int32.ofInt (w.2 r q)) (Int32.ofInt j).toNatClampNeg (Int32.ofInt x)))) := by
          rw [am_ws_dat h1 (u2 w.2 r j.toNat (wr x)) (am_u2_ne _ _ _ _), i2, ← n_wr x, ← am_u2_row]
          rfl
        refine va_iast hx hb hK hP hD hS r 0 (am_cell0 h1) rfl i1 hd (fun H1 locs1 hP1 hD1 hS1 => ?_)
        rw [← e] at hP1 hD1
        exact k ls H1 locs1 hL hP1 hD1 hS1
      · cases h
    · cases h
  case bastore =>
    have hn := of_decide_eq_true hok
    have hd := am_dec hdec hn
    subst hn
    simp only [am_smp] at h
    split at h
    · rename_i x j r rest
      split at h
      · rename_i n hr
        obtain ⟨g1, g2⟩ := am_ite_some h
        cases g2
        obtain ⟨h1, hlt⟩ := am_arw_some hr
        obtain ⟨i1, i2⟩ := n_idx hlt g1.1 g1.2
        have e : am_ws ad cy (w.1, u2 w.2 r j.toNat (am_i2b x)) = (am_ws ad cy w).set r (ad r, .inl (cy 1, n, .inl (upd (fun q => Int32.ofInt (w.2 r q)) (Int32.ofInt j).toNatClampNeg (vp_nar .byte (Int32.ofInt x))))) := by
          rw [am_ws_dat h1 (u2 w.2 r j.toNat (am_i2b x)) (am_u2_ne _ _ _ _), i2, vp_nar_byte, ← n_of (Int32.ofInt x).toInt8.toInt32, show (Int32.ofInt x).toInt8.toInt32.toInt = am_i2b x from rfl, ← am_u2_row]
          rfl
        refine va_bast hx hb hK hP hD hS r 1 (am_cell1 h1) rfl i1 hd (fun H1 locs1 hP1 hD1 hS1 => ?_)
        rw [← e] at hP1 hD1
        exact k ls H1 locs1 hL hP1 hD1 hS1
      · rename_i n hr
        obtain ⟨⟨g1, g3⟩, g2⟩ := am_ite_some h
        cases g2
        obtain ⟨h1, hlt⟩ := am_arw_some hr
        obtain ⟨i1, i2⟩ := n_idx hlt g1.1 g1.2
        have e2 : vp_nar .boolean (Int32.ofInt x) = Int32.ofInt x := by rcases g3 with rfl | rfl <;> decide
        have e : am_ws ad cy (w.1, u2 w.2 r j.toNat x) = (am_ws ad cy w).set r (ad r, .inl (cy 3, n, .inl (upd (fun q => Int32.ofInt (w.2 r q)) (Int32.ofInt j).toNatClampNeg (vp_nar .boolean (Int32.ofInt x))))) := by
          rw [am_ws_dat h1 (u2 w.2 r j.toNat x) (am_u2_ne _ _ _ _), i2, e2, ← am_u2_row]
          rfl
        refine va_zast hx hb hK hP hD hS r 3 (am_cell3 h1) rfl i1 hd (fun H1 locs1 hP1 hD1 hS1 => ?_)
        rw [← e] at hP1 hD1
        exact k ls H1 locs1 hL hP1 hD1 hS1
      · cases h
    · cases h
  case lastore =>
    have hn := of_decide_eq_true hok
    have hd := am_dec hdec hn
    subst hn
    simp only [am_smp] at h
    split at h
    · rename_i x j r rest
      split at h
      · rename_i n hr
        obtain ⟨g1, g2⟩ := am_ite_some h
        cases g2
        obtain ⟨h1, hlt⟩ := am_arw_some hr
        obtain ⟨i1, i2⟩ := n_idx hlt g1.1 g1.2
        have e : am_ws ad cy (w.1, u2 w.2 r j.toNat (wl x)) = (am_ws ad cy w).set r (ad r, .inl (cy 2, n, .inr (.inl (vp_updL (fun q => Int64.ofInt (w.2 r q)) (Int32.ofInt j).toNatClampNeg (Int64.ofInt x))))) := by
          rw [am_ws_dat h1 (u2 w.2 r j.toNat (wl x)) (am_u2_ne _ _ _ _), i2, ← n_wl x, ← am_u2_row64]
          rfl
        refine va_last hx hb hK hP hD hS r 2 (am_cell2 h1) rfl i1 hd (fun H1 locs1 hP1 hD1 hS1 => ?_)
        rw [← e] at hP1 hD1
        exact k ls H1 locs1 hL hP1 hD1 hS1
      · cases h
    · cases h
  case getstatic j =>
    obtain ⟨hn, hw⟩ := Bool.and_eq_true_iff.mp hok
    have hn := of_decide_eq_true hn
    have hd := am_dec hdec hn
    subst hn
    match tg, h, hw with
    | [q, pl], h, hw =>
      simp only [am_smp] at h
      split at h
      · rename_i v hv
        cases h
        exact va_gets hx hb (hX.2.2.1 q v hv) hS hown (hts _ (wok_in hw)) (fun _ z => z) hd (k ls H locs hL hP hD hS)
      · cases h
  case invokespecial j =>
    obtain ⟨hn, hw⟩ := Bool.and_eq_true_iff.mp hok
    have hn := of_decide_eq_true hn
    have hd := am_dec hdec hn
    subst hn
    match tg, h, hw with
    | [_, p1, p2, p3], h, hw =>
      obtain ⟨hw1, hw⟩ := Bool.and_eq_true_iff.mp hw
      obtain ⟨hw2, hw3⟩ := Bool.and_eq_true_iff.mp hw
      simp only [am_smp] at h
      split at h
      · rename_i q rest _
        obtain ⟨g1, g2⟩ := am_ite_some h
        cases g2
        have hcat : (st'.map (co ad)).map (fun v => v.category) = st'.map am_cat := by
          rw [List.map_map]
          exact List.map_congr_left (fun v _ => co_cat ad v)
        refine W.objInit hx hb hown (hts _ (wok_in hw1)) (hts _ (wok_in hw2)) (hts _ (wok_in hw3)) rfl (by rw [hml]; exact hL.1) (rest := st'.map (co ad)) rfl hd hR.1 ?_ ?_
        · show 2 * 0 + ((st'.map (co ad)).map fun v => v.category).sum + 12 ≤ R.locals
          rw [hcat]
          omega
        · exact k ls H locs hL hP hD hS
      · cases h
  case invokestatic j =>
    obtain ⟨hn, hw⟩ := Bool.and_eq_true_iff.mp hok
    have hn := of_decide_eq_true hn
    have hd := am_dec hdec hn
    subst hn
    match tg, h, hw with
    | [_, p1, p2, p3, p4], h, hw =>
      obtain ⟨hw1, hw⟩ := Bool.and_eq_true_iff.mp hw
      obtain ⟨hw2, hw⟩ := Bool.and_eq_true_iff.mp hw
      obtain ⟨hw3, hw4⟩ := Bool.and_eq_true_iff.mp hw
      simp only [am_smp] at h
      split at h
      · rename_i n dp r1 sp r0 rest _
        split at h
        · rename_i n0 n1 hr0 hr1
          obtain ⟨⟨⟨g1, g2, g3⟩, g4, g5, g6⟩, g7⟩ := am_ite_some h
          cases g7
          obtain ⟨h1, hlt⟩ := am_arw_some hr0
          obtain ⟨h2, hlt2⟩ := am_arw_some hr1
          obtain ⟨s1, s2⟩ := n_pos (j := sp) g1 (by omega)
          obtain ⟨d1, d2⟩ := n_pos (j := dp) g2 (by omega)
          obtain ⟨z1, z2⟩ := n_pos (j := n) g3 (by omega)
          have hcat : (st'.map (co ad)).map (fun v => v.category) = st'.map am_cat := by
            rw [List.map_map]
            exact List.map_congr_left (fun v _ => co_cat ad v)
          have e : am_ws ad cy (w.1, am_cp w.2 r0 r1 sp.toNat dp.toNat n.toNat) = (am_ws ad cy w).set r1 (ad r1, .inl (cy 0, n1, .inl (va_cpy (fun q => Int32.ofInt (w.2 r0 q)) (fun q => Int32.ofInt (w.2 r1 q)) (Int32.ofInt sp).toNatClampNeg (Int32.ofInt dp).toNatClampNeg (Int32.ofInt n).toNatClampNeg))) := by
            rw [am_ws_dat h2 _ (am_cp_ne w.2 r0 r1 sp.toNat dp.toNat n.toNat), s2, d2, z2, ← am_cp_row]
            rfl
          refine va_copyi (rest := st'.map (co ad)) hx hb (by rw [hml]; exact hL.1.symm) hown (hts _ (wok_in hw1)) (hts _ (wok_in hw2)) (hts _ (wok_in hw3)) (hts _ (wok_in hw4)) hK hP hD hS r0 r1 0 0 (am_cell0 h1) (am_cell0 h2) rfl rfl rfl s1 d1 z1 (by rw [s2, z2]; omega) (by rw [d2, z2]; omega) (fun _ _ => rfl) hR.1 ?_ hd (fun H1 locs1 hP1 hD1 hS1 => ?_)
          · rw [hcat]
            have : nativeFrameWords "java/lang/System" "arraycopy" 5 = 7 := by decide
            omega
          · rw [← e] at hP1 hD1
            exact k ls H1 locs1 hL hP1 hD1 hS1
        · cases h
      · cases h
  case getfield j =>
    obtain ⟨hn, hw⟩ := Bool.and_eq_true_iff.mp hok
    have hn := of_decide_eq_true hn
    have hd := am_dec hdec hn
    subst hn
    simp only [am_smp] at h
    split at h
    · rename_i r rest
      split at h
      · rename_i cj fs ci f pl hr
        obtain ⟨g1, g2⟩ : Nat.beq ci cj = true ∧ (match fs[f]? with
          | some none => some (L, Sum.inl (w.2 r f) :: rest, w)
          | some (some o) => some (L, Sum.inr (Sum.inr o) :: rest, w)
          | none => none) = some (L', st', w') := by
          cases hb0 : Nat.beq ci cj
          · rw [hb0] at h; cases h
          · rw [hb0] at h; exact ⟨rfl, h⟩
        have g1 := Nat.eq_of_beq_eq_true g1
        subst g1
        try dsimp only at hw
        cases hq : vwCl[ci]? with
        | none => rw [hq] at hw; cases hw
        | some q =>
          rw [hq] at hw
          obtain ⟨hlt, hw⟩ := Bool.and_eq_true_iff.mp hw
          have hmem : q ∈ vwCl := List.mem_of_getElem? hq
          obtain ⟨C, T, N⟩ := q
          split at g2
          · rename_i hf
            cases g2
            exact va_get (v := .int (Int32.ofInt (w.2 r f))) hx hb hts (hcl _ hmem) hown hK hP r (am_fld hr) hq f (am_blt hlt) (hts _ (wok_in hw)) (fun _ z => z) (by rw [List.getElem?_mapIdx, hf]; rfl) hd (k ls H locs hL hP hD hS)
          · rename_i o hf
            cases g2
            exact va_get (v := va_rf (o.map ad)) hx hb hts (hcl _ hmem) hown hK hP r (am_fld hr) hq f (am_blt hlt) (hts _ (wok_in hw)) (fun _ z => z) (by rw [List.getElem?_mapIdx, hf]; rfl) hd (k ls H locs hL hP hD hS)
          · cases g2
      · rename_i f pl hr
        split at h
        · rename_i v hv
          cases h
          exact vk_getf hx hb (hX.2.1 r f v hv) hS hown (hts _ (wok_in hw)) (fun _ z => z) hd (k ls H locs hL hP hD hS)
        · cases h
      · cases h
    · cases h
  case putfield j =>
    obtain ⟨hn, hw⟩ := Bool.and_eq_true_iff.mp hok
    have hn := of_decide_eq_true hn
    have hd := am_dec hdec hn
    subst hn
    simp only [am_smp] at h
    split at h
    · rename_i x r rest
      split at h
      · rename_i cj fs ci f pl z hr
        obtain ⟨g1, g2⟩ : Nat.beq ci cj = true ∧ (match fs[f]? with
          | some none => bif (Nat.ble z 2 && (!Nat.beq z 1 || decide (x = 0 ∨ x = 1))) then some (L, rest, (w.1, u2 w.2 r f (wr x))) else none
          | _ => none) = some (L', st', w') := by
          cases hb0 : Nat.beq ci cj
          · rw [hb0] at h; cases h
          · rw [hb0] at h; exact ⟨rfl, h⟩
        have g1 := Nat.eq_of_beq_eq_true g1
        subst g1
        try dsimp only at hw
        cases hq : vwCl[ci]? with
        | none => rw [hq] at hw; cases hw
        | some q =>
          rw [hq] at hw
          obtain ⟨hlt, hw⟩ := Bool.and_eq_true_iff.mp hw
          obtain ⟨hwl, hw⟩ := Bool.and_eq_true_iff.mp hw
          have hmem : q ∈ vwCl := List.mem_of_getElem? hq
          obtain ⟨ty0, hty0⟩ := hty _ hmem
          have hnm0 := hnm _ hmem
          obtain ⟨C, T, N⟩ := q
          split at g2
          · rename_i hf
            obtain ⟨g3, g4⟩ := am_cond_some g2
            cases g4
            obtain ⟨z2, z1⟩ := Bool.and_eq_true_iff.mp g3
            have hl : f < (fs.mapIdx (fun j o => match o with
              | none => Value.int (Int32.ofInt (w.2 r j))
              | some r => va_rf (r.map ad))).length := by rw [List.length_mapIdx]; exact (List.getElem?_eq_some_iff.mp hf).1
            have fin : ∀ (H1 : Heap) (locs1 : List Loc), va_P D vwCl ((am_ws ad cy w).set r (ad r, .inr (ci, (fs.mapIdx (fun j o => match o with
              | none => Value.int (Int32.ofInt (w.2 r j))
              | some r => va_rf (r.map ad))).set f (.int (Int32.ofInt x))))) H1 → va_D (am_A b0) ((am_ws ad cy w).set r (ad r, .inr (ci, (fs.mapIdx (fun j o => match o with
              | none => Value.int (Int32.ofInt (w.2 r j))
              | some r => va_rf (r.map ad))).set f (.int (Int32.ofInt x))))) → va_S (am_A b0) s.heap H1 locs1 → W p l e R s m args below meth c H1 locs1 cells slots Q (F0 m (pc + 3) ls (st'.map (co ad))) := by
              intro H1 locs1 hP1 hD1 hS1
              rw [← n_wr x, ← am_fld_int hr hf] at hP1 hD1
              exact k ls H1 locs1 hL hP1 hD1 hS1
            split at hw
            · rename_i hpd
              rcases Bool.or_eq_true_iff.mp hw with hw | hw
              · obtain ⟨-, hw⟩ := Bool.and_eq_true_iff.mp hw
                exact va_put (v := .int (Int32.ofInt x)) hx hb hts (hcl _ hmem) ty0 hty0 hnm0 hown hK hP hD hS r (am_fld hr) hq f (am_blt hlt) (hts _ (wok_in hwl)) (fun _ z => z) (by simpa using hw) hpd rfl rfl hl hd fin
              · obtain ⟨-, hw⟩ := Bool.and_eq_true_iff.mp hw
                obtain ⟨hw1, hw⟩ := Bool.and_eq_true_iff.mp hw
                obtain ⟨hw2, hw3⟩ := Bool.and_eq_true_iff.mp hw
                exact va_putF (v := .int (Int32.ofInt x)) hx hb hts (hcl _ hmem) ty0 hty0 hnm0 hown hK hP hD hS r (am_fld hr) hq f (am_blt hlt) (hts _ (wok_in hwl)) (fun _ z => z) hw1 (hini hw2) (of_decide_eq_true hw3) hpd rfl rfl hl hd fin
            · rename_i hpd
              obtain ⟨hz, hw⟩ := Bool.and_eq_true_iff.mp hw
              rw [hz] at z1
              have z1 : x = 0 ∨ x = 1 := by simpa using z1
              have n1 : narrow .boolean (.int (Int32.ofInt x)) = .int (Int32.ofInt x) := by rcases z1 with rfl | rfl <;> decide
              have n2 : fits .boolean (.int (Int32.ofInt x)) = true := by rcases z1 with rfl | rfl <;> decide
              exact va_put (v := .int (Int32.ofInt x)) hx hb hts (hcl _ hmem) ty0 hty0 hnm0 hown hK hP hD hS r (am_fld hr) hq f (am_blt hlt) (hts _ (wok_in hwl)) (fun _ z => z) (by simpa using hw) hpd n1 n2 hl hd fin
            · obtain ⟨hz, -⟩ := Bool.and_eq_true_iff.mp hw
              have hz := Nat.eq_of_beq_eq_true hz
              subst hz
              exact absurd z2 (by decide)
            · obtain ⟨hz, -⟩ := Bool.and_eq_true_iff.mp hw
              have hz := Nat.eq_of_beq_eq_true hz
              subst hz
              exact absurd z2 (by decide)
            · cases hw
          · cases g2
      · cases h
    · rename_i o r rest
      split at h
      · rename_i cj fs ci f pl z hr
        obtain ⟨g1, g2⟩ : (Nat.beq ci cj && Nat.beq z 3) = true ∧ (match fs[f]? with
          | some (some _) => some (L, rest, (w.1.set r (.inr (cj, fs.set f (some o))), w.2))
          | _ => none) = some (L', st', w') := by
          cases hb0 : (Nat.beq ci cj && Nat.beq z 3)
          · rw [hb0] at h; cases h
          · rw [hb0] at h; exact ⟨rfl, h⟩
        obtain ⟨g1, gz⟩ := Bool.and_eq_true_iff.mp g1
        have g1 := Nat.eq_of_beq_eq_true g1
        subst g1
        have gz := Nat.eq_of_beq_eq_true gz
        subst gz
        try dsimp only at hw
        cases hq : vwCl[ci]? with
        | none => rw [hq] at hw; cases hw
        | some q =>
          rw [hq] at hw
          obtain ⟨hlt, hw⟩ := Bool.and_eq_true_iff.mp hw
          obtain ⟨hwl, hw⟩ := Bool.and_eq_true_iff.mp hw
          have hmem : q ∈ vwCl := List.mem_of_getElem? hq
          obtain ⟨ty0, hty0⟩ := hty _ hmem
          have hnm0 := hnm _ hmem
          obtain ⟨C, T, N⟩ := q
          split at g2
          · rename_i o0 hf
            cases g2
            have hl : f < (fs.mapIdx (fun j o => match o with
              | none => Value.int (Int32.ofInt (w.2 r j))
              | some r => va_rf (r.map ad))).length := by rw [List.length_mapIdx]; exact (List.getElem?_eq_some_iff.mp hf).1
            have fin : ∀ (H1 : Heap) (locs1 : List Loc), va_P D vwCl ((am_ws ad cy w).set r (ad r, .inr (ci, (fs.mapIdx (fun j o => match o with
              | none => Value.int (Int32.ofInt (w.2 r j))
              | some r => va_rf (r.map ad))).set f (va_rf (o.map ad))))) H1 → va_D (am_A b0) ((am_ws ad cy w).set r (ad r, .inr (ci, (fs.mapIdx (fun j o => match o with
              | none => Value.int (Int32.ofInt (w.2 r j))
              | some r => va_rf (r.map ad))).set f (va_rf (o.map ad))))) → va_S (am_A b0) s.heap H1 locs1 → W p l e R s m args below meth c H1 locs1 cells slots Q (F0 m (pc + 3) ls (st'.map (co ad))) := by
              intro H1 locs1 hP1 hD1 hS1
              rw [← am_fld_ref hr hf] at hP1 hD1
              exact k ls H1 locs1 hL hP1 hD1 hS1
            split at hw
            · simp at hw
            · simp at hw
            · rename_i n1 hpd
              obtain ⟨hw1, hw⟩ := Bool.and_eq_true_iff.mp (Bool.and_eq_true_iff.mp hw).2
              obtain ⟨hw2, hw3⟩ := Bool.and_eq_true_iff.mp hw
              exact va_putF (v := va_rf (o.map ad)) hx hb hts (hcl _ hmem) ty0 hty0 hnm0 hown hK hP hD hS r (am_fld hr) hq f (am_blt hlt) (hts _ (wok_in hwl)) (fun _ z => z) hw1 (hini hw2) (of_decide_eq_true hw3) hpd (by cases o <;> rfl) (by cases o <;> rfl) hl hd fin
            · rename_i n1 hpd
              obtain ⟨hw1, hw⟩ := Bool.and_eq_true_iff.mp (Bool.and_eq_true_iff.mp hw).2
              obtain ⟨hw2, hw3⟩ := Bool.and_eq_true_iff.mp hw
              exact va_putF (v := va_rf (o.map ad)) hx hb hts (hcl _ hmem) ty0 hty0 hnm0 hown hK hP hD hS r (am_fld hr) hq f (am_blt hlt) (hts _ (wok_in hwl)) (fun _ z => z) hw1 (hini hw2) (of_decide_eq_true hw3) hpd (by cases o <;> rfl) (by cases o <;> rfl) hl hd fin
            · cases hw
          · cases g2
      · cases h
    · cases h
  all_goals (simp [am_smp] at h; done)
end SMP
