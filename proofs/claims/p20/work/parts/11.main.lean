section MAIN
variable {P : Nat → Option am_M} {F : Nat → Option (List (Option (Option Nat)))} {B : Nat → Option am_N} {sites : List (String × Nat × Nat)} {nests : am_nst} {X : am_X} {D : va_G} {cy : Nat → ClassId} {b0 : Nat} {l : Launch}
theorem am_okc_smp {own : String} {ini : Bool} {pc nx : Nat} {i : Instr} {tg : List Nat} {cv : Int} {L : am_L} {st : List AV} {w : am_W} {z : am_L × List AV × am_W} (h : am_okc B own ini sites nests pc (i, nx, tg, cv) = true) (hs : am_smp X i tg cv L st w = some z) (h1 : ∀ k, i = .invokestatic k → ¬ Nat.blt (tg.headD 0) 9000 = true) (h2 : ∀ k, i = .invokespecial k → ¬ Nat.blt (tg.headD 0) 9000 = true) : am_oks own ini sites pc i nx tg cv = true := by
  cases i
  case goto => cases hs
  case if_icmp => cases hs
  case ifCond => cases hs
  case tableswitch => cases hs
  case ireturn => cases hs
  case lreturn => cases hs
  case return_ => cases hs
  case new => cases hs
  case newarray => cases hs
  case invokevirtual => cases hs
  case invokestatic k =>
    have := h1 k rfl
    simp only [am_okc] at h
    rw [if_neg this] at h
    exact h
  case invokespecial k =>
    have := h2 k rfl
    simp only [am_okc] at h
    rw [if_neg this] at h
    exact h
  all_goals exact h
theorem am_sub_words {b : am_N} {mt : am_M} {ps : List Nat} (hm : am_okm b mt ps = true) : GoodIn am_TW (am_wsM b mt) := by
  unfold am_okm at hm
  split at hm
  · obtain ⟨hw, -⟩ := Bool.and_eq_true_iff.mp hm
    intro w h
    rcases List.mem_cons.mp h with rfl | h
    · exact ⟨wok_in hw, (am_TW_good (fun w h => h) _ (wok_in hw)).2⟩
    · exact am_TW_good (fun w h => h) w h
  · cases hm
theorem am_hcat {ad : Nat → Nat} (st : List AV) : ((st.map (co ad)).map fun v => v.category) = st.map am_cat := by
  rw [List.map_map]
  exact List.map_congr_left (fun v _ => co_cat ad v)
set_option maxHeartbeats 8000000 in
theorem am_call_snd {n : Nat} (ih : am_Snd P F B sites nests X D cy b0 l n) (HP : am_HP P B sites nests) (HX : am_HX X) {d mi pc nx : Nat} {L : am_L} {st : List AV} {w w1 : am_W} {r : Option AV} {tg : List Nat} {virt : Bool} {i : Instr} {cv : Int}
    (h : am_call P w d tg L st virt (fun d' mj L0 => am_ex P F X n d' mj 0 L0 [] w) (fun st' w' => am_ex P F X n d mi nx L st' w') = some (r, w1))
    {p : Program} {e : Env} {R : Room} {s : State} {m : MethodId} {args : Array Value} {below : List Frame} {meth : Method} {c : Code} {H : Heap} {locs : List Loc} {cells slots C S : Nat} {Q : State → Prop} {ls : Array Slot} {ad : Nat → Nat} {b : am_N} {mt : am_M}
    (hFX : am_FX P B sites nests X D cy b0 d mi ad b mt p R s m args meth c) (hL : am_LR ad ls mt.2.2.1 L) (hPp : va_P D vwCl (am_ws ad cy w) H) (hD : va_D (am_A b0) (am_ws ad cy w)) (hS : va_S (am_A b0) s.heap H locs)
    (e1 : cells + w1.1.length = C + w.1.length) (e2 : slots + am_sl w1.1 = S + am_sl w.1) (hC : C ≤ R.cells) (hSs : S ≤ R.slots) (hret : am_RETd D cy b0 ad b mt w r w1 p l e R s m args below meth c C S Q)
    (hdec : decode b.2.1 pc = .ok (i, nx - pc)) (hok : am_okc B b.1.cls (decide (b.1.name = "<init>")) sites nests pc (i, nx, tg, cv) = true) (hi : (virt = true ∧ ∃ k, i = .invokevirtual k) ∨ (Nat.blt (tg.headD 0) 9000 = true ∧ ((virt = false ∧ ∃ k, i = .invokestatic k) ∨ virt = true ∧ ∃ k, i = .invokespecial k))) :
    W p l e R s m args below meth c H locs cells slots Q (F0 m pc ls (st.map (co ad))) := by
  obtain ⟨mj, pl, tl, mu, d', r', w', rfl, hPj, rfl, hlen, hcat8, hcat1, hrcv, hrun, hvw, hgo⟩ := am_call_inv h
  obtain ⟨hPm, hHI, hx, hb, hml, hown, hini, hts, hK, hXO, hfr, hlo, hb0⟩ := id hFX
  have hg1 := am_grow _ _ _ _ _ _ _ _ _ hrun
  have hg2 := am_grow _ _ _ _ _ _ _ _ _ hgo
  have hcells : cells + (w'.1.length - w.1.length) ≤ R.cells ∧ slots + (am_sl w'.1 - am_sl w.1) ≤ R.slots := ⟨by omega, by omega⟩
  have hBj : ∃ bj, B mj = some bj := by
    rcases hi with ⟨-, k, rfl⟩ | ⟨h9, ⟨-, k, rfl⟩ | ⟨-, k, rfl⟩⟩
    · obtain ⟨-, hok⟩ := Bool.and_eq_true_iff.mp hok
      cases hB : B mj with
      | some bj => exact ⟨bj, rfl⟩
      | none => dsimp only at hok; rw [hB] at hok; cases hok
    · unfold am_okc at hok
      dsimp only at hok
      rw [if_pos h9] at hok
      obtain ⟨-, hok⟩ := Bool.and_eq_true_iff.mp hok
      cases hB : B mj with
      | some bj => exact ⟨bj, rfl⟩
      | none => rw [hB] at hok; cases hok
    · unfold am_okc at hok
      dsimp only at hok
      rw [if_pos h9] at hok
      obtain ⟨-, hok⟩ := Bool.and_eq_true_iff.mp hok
      cases hB : B mj with
      | some bj => exact ⟨bj, rfl⟩
      | none => rw [hB] at hok; cases hok
  obtain ⟨bj, hBj⟩ := hBj
  obtain ⟨mt', ps, hPj', hokm, hHIj⟩ := HP mj bj hBj
  rw [hPj] at hPj'
  cases hPj'
  have hMet := am_met (ad := ad) ih hPj hokm hHIj hrun (fun v hv => hcat1 v (List.mem_reverse.mp hv)) (by rw [List.length_reverse, List.length_take, Nat.min_eq_left hlen])
  have hGood := am_sub_words hokm
  -- what the method's own check says
  have hpar : (bj.1.cls ≠ "java/lang/invoke/MethodHandle" ∧ bj.1.cls ≠ "java/lang/invoke/VarHandle" ∧ (parseMethodDescriptor bj.1.desc).map (fun d => d.parameters.length) = some (mu.2.1 - (if bj.2.2.2 = 0 then 0 else 1))) ∧ (bj.2.2.2 = 0 ∨ 1 ≤ mu.2.1) ∧ mu.2.2.1 ≤ 40 ∧ (Jvm.Cond.initialized bj.1.cls).before args s = true ∧ (bj.2.2.2 = 0 → (Jvm.Cond.static bj.1).before args s = true) ∧ (bj.2.2.2 = 1 → (Jvm.Cond.instanceMethod bj.1).before args s = true ∧ (Jvm.Cond.selects bj.1.cls bj.1 bj.1).before args s = true) ∧ (bj.2.2.2 = 2 → (Jvm.Cond.instanceMethod bj.1).before args s = true ∧ bj.1.name = "<init>" ∧ bj.2.2.1 = none) := by
    unfold am_okm at hokm
    split at hokm
    · obtain ⟨-, hm⟩ := Bool.and_eq_true_iff.mp hokm
      obtain ⟨hini2, hm⟩ := Bool.and_eq_true_iff.mp hm
      obtain ⟨hkd, hm⟩ := Bool.and_eq_true_iff.mp hm
      obtain ⟨hm, hk⟩ := Bool.and_eq_true_iff.mp hm
      obtain ⟨hq1, hq2, -, -, hq3⟩ := of_decide_eq_true hm
      refine ⟨hq1, hq2, hq3, hts _ (wok_in hini2), fun z => ?_, fun z => ?_, fun z => ?_⟩
      · rw [z] at hkd
        exact hts _ (wok_in hkd)
      · rw [z] at hkd
        obtain ⟨k1, k2⟩ := Bool.and_eq_true_iff.mp hkd
        exact ⟨hts _ (wok_in k1), hts _ (wok_in k2)⟩
      · rw [z] at hkd
        obtain ⟨k1, k2⟩ := Bool.and_eq_true_iff.mp hkd
        exact ⟨hts _ (wok_in k1), of_decide_eq_true k2⟩
    · cases hokm
  obtain ⟨hd3, hna1, h40, hinit, hk0, hk1, hk2⟩ := hpar
  have hroom : (am_rm d' (w'.1.length - w.1.length) (am_sl w'.1 - am_sl w.1)).frames + 1 ≤ R.frames ∧ 8 + (mu.2.2.1 + 11) + (am_rm d' (w'.1.length - w.1.length) (am_sl w'.1 - am_sl w.1)).locals ≤ R.locals := by
    refine ⟨?_, ?_⟩
    · show d' + 1 + 1 ≤ R.frames
      exact hfr
    · show 8 + (mu.2.2.1 + 11) + 64 * (d' + 1) ≤ R.locals
      omega
  have hblind : FrameBlind (va_Pc ((st.take mu.2.1).reverse.map (co ad)) (am_PRE D cy sites nests X b0 ad w)) := by
    intro a U g mk q
    obtain ⟨q0, q1, q2, q3, q4, q5⟩ := q
    exact ⟨q0, q1, q2, q3, va_K.moved (u := U) (U := U.calling g mk a) (Vm.Alike.refl U.vm) q4, q5.calling⟩
  have hpre : ∀ U : State, U.heap = H → s.WarmedH U.vm → am_PRE D cy sites nests X b0 ad w U := by
    intro U hU hW
    exact ⟨by rw [hU]; exact Nat.le_trans hb0 hS.1, by rw [hU]; exact hPp, hD, va_K.moved hW.alike hK, hXO.to hW (by rw [hU]; exact hS)⟩
  have hsz : ls.size = mt.2.2.1 := hL.1
  -- behind the call
  have hbehind : ∀ {a : Array Value}, va_Run p l e R s m args below meth c H locs cells slots (w'.1.length - w.1.length) (am_sl w'.1 - am_sl w.1) (F0 m pc ls (st.map (co ad))) ((st.drop mu.2.1).map (co ad)) (am_POST D cy b0 ad w r' w' a) (am_A b0) → nx = pc + 3 → W p l e R s m args below meth c H locs cells slots Q (F0 m pc ls (st.map (co ad))) := by
    intro a hrun2 hnx
    refine am_run_any hrun2 hS (fun q h => h) (fun st o t h => h.2) ?_
    intro v st₀ t H1 locs1 h0 ht hpost hS1
    obtain ⟨⟨ad', he, hv, hP1, hD1⟩, -⟩ := hpost
    cases hv
    rw [ht] at hP1
    have hco : am_LR ad' ls mt.2.2.1 L ∧ (st.drop mu.2.1).map (co ad') = (st.drop mu.2.1).map (co ad) ∧ am_XO sites nests X ad' b0 s := by
      rcases hvw with hz | hz
      · have had : ad' = ad := funext fun k => he k (by omega)
        subst had
        exact ⟨hL, rfl, hXO⟩
      · obtain ⟨v1, v2, v3, v4⟩ := am_vw_inv hz
        have h9 : w'.1.length ≤ 900 := hg1.2.2 (by omega)
        have hee : ∀ k, k < w.1.length ∨ 1000 ≤ k → ad' k = ad k := fun k hk => he k (by omega)
        exact ⟨hL.ad hee v3, am_st_ad hee v4, hXO.ad HX.1 HX.2.1 HX.2.2 (fun k hk => hee k (Or.inr hk))⟩
    obtain ⟨hL', hst', hXO'⟩ := hco
    subst hnx
    have key := ih _ _ _ _ _ _ _ _ hgo p e R s m args below meth c H1 locs1 (cells + (w'.1.length - w.1.length)) (slots + (am_sl w'.1 - am_sl w.1)) C S Q ls ad' b mt ⟨hPm, hHI, hx, hb, hml, hown, hini, hts, hK, hXO', hfr, hlo, hb0⟩ hL' hP1 hD1 hS1 (by omega) (by omega) hC hSs (fun ad2 ls2 H2 locs2 pc2 i2 he2 => hret ad2 ls2 H2 locs2 pc2 i2 (fun k hk => (he2 k (by omega)).trans (he k (by omega))))
    rw [List.map_append, hst'] at key
    have ev : (r'.toList.map (co ad')) = (Option.map (co ad') r').toList := by cases r' <;> rfl
    rw [ev] at key
    exact key
  have hcb : ∀ (k : Nat), (Jvm.Cond.methodLink b.1.cls k bj.1).before args s = true → ∀ q, mu.2.1 - (if bj.2.2.2 = 0 then 0 else 1) = q → CallB R s args b.1.cls k bj.1 bj.2.1 mu.2.2.1 bj.2.2.1 (am_wsM bj mu) (am_rm d' (w'.1.length - w.1.length) (am_sl w'.1 - am_sl w.1)) (w'.1.length - w.1.length) (am_sl w'.1 - am_sl w.1) q :=
    fun k hlk q hq => callB_of q hts hGood rfl rfl rfl hinit hlk (by rw [← hq]; exact hd3) hroom
  have hcn : ∀ (k : Nat), (nests.any (fun q => decide (q.1 = b.1.cls ∧ q.2.1 = k ∧ q.2.2.1 = bj.1))) = true → ∀ q, mu.2.1 - (if bj.2.2.2 = 0 then 0 else 1) = q → ∃ host, va_CN R s args b.1.cls k bj.1 host bj.2.1 mu.2.2.1 bj.2.2.1 (am_wsM bj mu) (am_rm d' (w'.1.length - w.1.length) (am_sl w'.1 - am_sl w.1)) (w'.1.length - w.1.length) (am_sl w'.1 - am_sl w.1) q := by
    intro k hne q hq
    obtain ⟨z, hz, hz2⟩ := List.any_eq_true.mp hne
    obtain ⟨z1, z2, z3⟩ := of_decide_eq_true hz2
    have hn2 := hXO.2.2.2.2.1 z hz
    rw [z1, z2, z3] at hn2
    exact ⟨z.2.2.2, va_cnB q hts hGood rfl rfl rfl hn2 hinit (by rw [← hq]; exact hd3) hroom⟩
  have hst8 : 2 * (F0 m pc ls (st.map (co ad))).monitorRoom + (((st.drop mu.2.1).map (co ad)).map fun v => v.category).sum ≤ 8 := lv_room (by rw [am_hcat]; exact hcat8)
  rcases hi with ⟨rfl, k, rfl⟩ | ⟨h9, ⟨rfl, k, rfl⟩ | ⟨rfl, k, rfl⟩⟩
  · -- invokevirtual
    simp only [am_okc] at hok
    obtain ⟨hnx, hok⟩ := Bool.and_eq_true_iff.mp hok
    have hnx := of_decide_eq_true hnx
    rw [hBj] at hok
    obtain ⟨hkd, hok⟩ := Bool.and_eq_true_iff.mp hok
    have hkd := Nat.eq_of_beq_eq_true hkd
    obtain ⟨hcl, hok⟩ := Bool.and_eq_true_iff.mp hok
    obtain ⟨v0, As, ha1, ha2, ha3, ha4⟩ := am_split (st := st) (by omega : 1 ≤ mu.2.1) hlen
    have hrc := hrcv rfl
    rw [ha3] at hrc
    unfold am_rcv at hrc
    split at hrc
    · rename_i q hq
      cases hq
      have hrecv : ∃ cellB : Cell, H[ad q]? = some cellB ∧ cellB.vm.isStatics = false ∧ s.vm.findClass bj.1.cls = some cellB.cls := by
        split at hrc
        · rename_i cj fs hr
          have hcj := Nat.eq_of_beq_eq_true hrc
          have hf := am_fld (ad := ad) (cy := cy) hr
          rw [← hcj] at hf
          cases hv : vwCl[tl.headD 99]? with
          | some qq =>
            rw [hv] at hcl
            have hcl := of_decide_eq_true hcl
            rw [← hcl]
            exact va_recv hK hPp hv hf
          | none =>
            exfalso
            obtain ⟨rr, g1, -⟩ := hPp q _ hf
            rw [hv] at g1
            cases g1
        · cases hrc
        · obtain ⟨h1, h2⟩ := Bool.and_eq_true_iff.mp hrc
          obtain ⟨h2, h3⟩ := Bool.and_eq_true_iff.mp h2
          have h1 := Nat.eq_of_beq_eq_true h1
          rw [h1] at hcl
          rw [show vwCl[99]? = none from rfl] at hcl
          have hcl := of_decide_eq_true (Bool.and_eq_true_iff.mp hcl).2
          rw [hcl]
          obtain ⟨cell, c1, c2, c3, -⟩ := (hXO.2.2.2.2.2 q (Nat.le_of_ble_eq_true h2) (am_blt h3)).kept hS.2.1
          exact ⟨cell, c1, c2, c3⟩
      rw [ha1] at hMet hblind
      refine hbehind (va_runV (As := As.map (co ad)) (n := mu.2.1 - (if bj.2.2.2 = 0 then 0 else 1)) ⟨hx, hb, hml, hown, hts⟩ hMet ⟨hcb k (hts _ (wok_in hok)) _ rfl, (hk1 hkd).1, (hk1 hkd).2⟩ ⟨hblind, hrecv, fun U hU hW => ⟨rfl, hpre U hU hW⟩⟩ rfl ?_ hsz ?_ hst8 (am_dec hdec hnx) hcells) hnx
      · rw [List.length_map, ha4, hkd]; rfl
      · show st.map (co ad) = (As.map (co ad)).reverse ++ co ad (.inr (.inr (some q))) :: (st.drop mu.2.1).map (co ad)
        have := congrArg (List.map (co ad)) ha2
        rw [List.map_append, List.map_cons, List.map_reverse] at this
        exact this
    · cases hrc
  · -- invokestatic
    simp only [am_okc] at hok
    rw [if_pos h9] at hok
    obtain ⟨hnx, hok⟩ := Bool.and_eq_true_iff.mp hok
    have hnx := of_decide_eq_true hnx
    rw [hBj] at hok
    obtain ⟨hkd, hok⟩ := Bool.and_eq_true_iff.mp hok
    have hkd := Nat.eq_of_beq_eq_true hkd
    have hlenA : ((st.take mu.2.1).reverse.map (co ad)).length = mu.2.1 - (if bj.2.2.2 = 0 then 0 else 1) := by
      rw [List.length_map, List.length_reverse, List.length_take, Nat.min_eq_left hlen, hkd]; rfl
    have hstk : st.map (co ad) = ((st.take mu.2.1).reverse.map (co ad)).reverse ++ (st.drop mu.2.1).map (co ad) := by
      rw [← List.map_reverse, List.reverse_reverse, ← List.map_append, List.take_append_drop]
    split at hok
    · exact hbehind (va_runS (As := (st.take mu.2.1).reverse.map (co ad)) (n := mu.2.1 - (if bj.2.2.2 = 0 then 0 else 1)) ⟨hx, hb, hml, hown, hts⟩ hMet ⟨hcb k (hts _ (wok_in hok)) _ rfl, hk0 hkd⟩ ⟨hblind, fun U hU hW => ⟨rfl, hpre U hU hW⟩⟩ rfl hlenA hsz hstk hst8 (am_dec hdec hnx) hcells) hnx
    · obtain ⟨host, hcnn⟩ := hcn k hok _ rfl
      exact hbehind (va_runSN (As := (st.take mu.2.1).reverse.map (co ad)) (n := mu.2.1 - (if bj.2.2.2 = 0 then 0 else 1)) ⟨hx, hb, hml, hown, hts⟩ hMet ⟨hcnn, hk0 hkd, trivial⟩ ⟨hblind, fun U hU hW => ⟨rfl, hpre U hU hW⟩⟩ rfl hlenA hsz hstk hst8 (am_dec hdec hnx) hcells) hnx
  · -- invokespecial
    simp only [am_okc] at hok
    rw [if_pos h9] at hok
    obtain ⟨hnx, hok⟩ := Bool.and_eq_true_iff.mp hok
    have hnx := of_decide_eq_true hnx
    rw [hBj] at hok
    obtain ⟨hkd, hok⟩ := Bool.and_eq_true_iff.mp hok
    have hkd := Nat.eq_of_beq_eq_true hkd
    obtain ⟨v0, As, ha1, ha2, ha3, ha4⟩ := am_split (st := st) (by omega : 1 ≤ mu.2.1) hlen
    obtain ⟨k1, k2, k3⟩ := hk2 hkd
    have hrc := hrcv rfl
    rw [ha3] at hrc
    unfold am_rcv at hrc
    split at hrc
    · rename_i q hq
      cases hq
      rw [ha1] at hMet hblind
      have hlenA : (As.map (co ad)).length = mu.2.1 - (if bj.2.2.2 = 0 then 0 else 1) := by rw [List.length_map, ha4, hkd]; rfl
      have hstk : st.map (co ad) = (As.map (co ad)).reverse ++ co ad (.inr (.inr (some q))) :: (st.drop mu.2.1).map (co ad) := by
        have := congrArg (List.map (co ad)) ha2
        rw [List.map_append, List.map_cons, List.map_reverse] at this
        exact this
      split at hok
      · have hcb2 := hcb k (hts _ (wok_in hok)) _ rfl
        rw [k3] at hcb2
        exact hbehind (va_runI (As := As.map (co ad)) (n := mu.2.1 - (if bj.2.2.2 = 0 then 0 else 1)) ⟨hx, hb, hml, hown, hts⟩ hMet ⟨hcb2, k2, k1⟩ ⟨hblind, fun U hU hW => ⟨rfl, hpre U hU hW⟩⟩ rfl hlenA hsz hstk hst8 (am_dec hdec hnx) hcells) hnx
      · obtain ⟨host, hcnn⟩ := hcn k hok _ rfl
        rw [k3] at hcnn
        exact hbehind (va_runIN (As := As.map (co ad)) (n := mu.2.1 - (if bj.2.2.2 = 0 then 0 else 1)) ⟨hx, hb, hml, hown, hts⟩ hMet ⟨hcnn, k2, k1⟩ ⟨hblind, fun U hU hW => ⟨rfl, hpre U hU hW⟩⟩ rfl hlenA hsz hstk hst8 (am_dec hdec hnx) hcells) hnx
    · cases hrc
end MAIN
