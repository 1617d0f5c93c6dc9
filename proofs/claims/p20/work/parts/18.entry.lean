set_option maxRecDepth 100000 in
theorem am_hc1 : ∀ q ∈ vwCl, ∀ w ∈ u_ws q.1 q.2.1 q.2.2, w ∈ lw_tbl ∧ goodWord w = true := by decide +kernel
theorem am_hcF (ci : Nat) (q : vw_C) (h : vwCl[ci]? = some q) : ∃ (ty : Nat → FieldType) (fs : List (Option (Option Nat))), am_F ci = some fs ∧ fs.length = q.2.2 ∧ (∀ k, k < q.2.2 → parseFieldDescriptor (q.2.1 k).2.2.1 = some (ty k)) ∧ ∀ j, j < q.2.2 → (fs[j]? = some none ∧ defaultValue (ty j) = .int 0) ∨ (fs[j]? = some (some none) ∧ defaultValue (ty j) = .null) := by
  match ci, h with
  | 0, h => cases h; exact ⟨tyX0, _, rfl, rfl, tyX0_ok, by decide +kernel⟩
  | 1, h => cases h; exact ⟨tyX1, _, rfl, rfl, tyX1_ok, by decide +kernel⟩
  | 2, h => cases h; exact ⟨tyX2, _, rfl, rfl, tyX2_ok, by decide +kernel⟩
  | 3, h => cases h; exact ⟨tyX3, _, rfl, rfl, tyX3_ok, by decide +kernel⟩
  | 4, h => cases h; exact ⟨tyX4, _, rfl, rfl, tyX4_ok, by decide +kernel⟩
  | 5, h => cases h; exact ⟨tyX5, _, rfl, rfl, tyX5_ok, by decide +kernel⟩
  | 6, h => cases h; exact ⟨tyX6, _, rfl, rfl, tyX6_ok, by decide +kernel⟩
  | n + 7, h => simp [vwCl] at h
theorem am_hc_ok : am_HC am_F := by
  refine ⟨fun q hq w hw => List.mem_filter.mpr ⟨(am_hc1 q hq w hw).1, (am_hc1 q hq w hw).2⟩, fun q hq => ?_, fun q hq => ?_, am_hcF⟩
  · obtain ⟨i, hi⟩ := List.getElem?_of_mem hq
    obtain ⟨ty, fs, -, -, h, -⟩ := am_hcF i q hi
    exact ⟨ty, h⟩
  · obtain ⟨i, hi⟩ := List.getElem?_of_mem hq
    match i, hi with
    | 0, h => cases h; exact nmX0
    | 1, h => cases h; exact nmX1
    | 2, h => cases h; exact nmX2
    | 3, h => cases h; exact nmX3
    | 4, h => cases h; exact nmX4
    | 5, h => cases h; exact nmX5
    | 6, h => cases h; exact nmX6
    | n + 7, h => simp [vwCl] at h
theorem am_arr0 {args : Array Value} {s : State} {ty : FieldType} (h : (Jvm.Cond.arrayClass ty).before args s = true) (hp : ∀ C, ty ≠ .object C) : ∃ cA, ArrOfT s cA ty ∧ va_RA s cA ty := by
  obtain ⟨cA, kA, comp, h1, h2, h3⟩ := Cond.arrayClass_spec h
  refine ⟨cA, fun n z => ⟨fun k h => (by cases h), kA, h2, comp, h3⟩, ?_⟩
  cases ty with
  | object C => exact absurd rfl (hp C)
  | _ => exact h1
theorem am_K0 {args : Array Value} {s : State} (hts : ∀ w ∈ lw_tbl, w.before args s = true) : ∃ (D : va_G) (cy : Nat → ClassId), va_K D vwCl (am_ty cy) s := by
  obtain ⟨-, ⟨a0, a1, a2, a3⟩, hin⟩ := am_st_words
  have hc : ∀ k : Nat, ∃ z : ClassId × (Nat → Nat), ∀ q, vwCl[k]? = some q → u_Kn s q.1 q.2.1 q.2.2 z.1 z.2 := by
    intro k
    cases hq : vwCl[k]? with
    | none => exact ⟨(0, fun _ => 0), fun q h => by cases h⟩
    | some q =>
      have hm := List.mem_of_getElem? hq
      obtain ⟨cC, iS, h⟩ := u_known (C := q.1) (T := q.2.1) (N := q.2.2) hts (fun w hw => (am_hc1 q hm w hw).1) (hts _ (hin q hm))
      exact ⟨(cC, iS), fun q' h' => by cases h'; exact h⟩
  obtain ⟨f, hf⟩ := Classical.axiomOfChoice hc
  obtain ⟨c0, r0, s0⟩ := am_arr0 (hts _ a0) (fun C h => by cases h)
  obtain ⟨c1, r1, s1⟩ := am_arr0 (hts _ a1) (fun C h => by cases h)
  obtain ⟨c2, r2, s2⟩ := am_arr0 (hts _ a2) (fun C h => by cases h)
  obtain ⟨c3, r3, s3⟩ := am_arr0 (hts _ a3) (fun C h => by cases h)
  refine ⟨(fun k => (f k).1, fun k => (f k).2), fun t => match t with
    | 0 => c0
    | 1 => c1
    | 2 => c2
    | _ => c3, fun c q h => hf c q h, fun k q h => ?_⟩
  match k, h with
  | 0, h => cases h; exact ⟨r0, s0⟩
  | 1, h => cases h; exact ⟨r1, s1⟩
  | 2, h => cases h; exact ⟨r2, s2⟩
  | 3, h => cases h; exact ⟨r3, s3⟩
  | n + 4, h => simp [am_ty] at h
/-- what lies outside, at the law's start -/
theorem am_XO0 {s : State} {b L : Nat} {xs : Nat → Int32} (hts : ∀ w ∈ lw_tbl, w.before #[Value.ref b] s = true) (hX : va_X b L xs s s.heap) (hbl : b < s.heap.size) (hgv : (Jvm.Cond.and given_1 narrow_1).before #[Value.ref b] s = true) :
    ∃ (ad : Nat → Nat) (sio : Option Nat), (∀ k, sio = some k → 1000 ≤ k) ∧ ad 3000 = b ∧ am_XO am_sites am_nests (am_XX L xs sio) ad s.heap.size s := by
  have hs := flat_of_before _ hgv
  have hA : ∀ a : Nat, a < s.heap.size → ¬ am_A s.heap.size a := fun a h => Nat.not_le.mpr h
  obtain ⟨⟨w1, w2, w3, w4, w5, w6⟩, -, -⟩ := am_st_words
  obtain ⟨v1, v2, v3, v4, v5⟩ := am_st_vals
  have hZ0 := va_Zof (hts _ w1) (hts _ w2) (va_eqt (hs _ v1)) hA
  have hZ1 := va_Zqof (hts _ w3) (hts _ w4) (hs _ v2) hA
  obtain ⟨lt, hlt, hT⟩ := va_Tof (N := 4) (f := fun j => .int (Int32.ofInt (([0, 100, 300, 600] : List Int).getD j 0))) (by decide) (hs _ v3) (va_eqt (hs _ v4)) (fun j hj => va_eqt (hs _ (v5 j hj))) hA
  have hZ2 := va_Zof (hts _ w5) (hts _ w6) hlt hA
  -- the texts
  have hstr : ∀ i : Nat, ∃ q : Nat × Nat, i < 24 → (am_tm i).eval #[Value.ref b] s none [] s = some (.ref q.1) ∧ va_O "java/lang/String" q.1 (am_A s.heap.size) s s.heap ∧ va_OF "java/lang/String" "coder" "B" (.int 0) q.1 (am_A s.heap.size) s s.heap ∧ va_OF "java/lang/String" "value" "[B" (.ref q.2) q.1 (am_A s.heap.size) s s.heap ∧ va_T .byte q.2 (am_Sln.getD i 0) (fun j => .int ((am_Sb32.getD i []).getD j 0)) (am_A s.heap.size) s s.heap := by
    intro i
    by_cases hi : i < 24
    · obtain ⟨adK, adV, h1, h2⟩ := vk_Sof (N := 1) (tm := fun _ => am_tm i) (len := [am_Sln.getD i 0]) (byt := [am_Sb32.getD i []]) (A := am_A s.heap.size) (fun j hj => by
          have e : j = 0 := by omega
          subst e; exact am_s_ln i hi) (fun _ _ => hs _ (am_s_ex i hi)) (fun _ _ => hs _ (am_s_co i hi)) (fun _ _ => hs _ (am_s_ar i hi)) (fun j hj => by
          have e : j = 0 := by omega
          subst e; exact hs _ (am_s_le i hi)) (fun j hj k hk => by
          have e : j = 0 := by omega
          subst e; exact hs _ (am_s_el i hi k hk)) (fun i j hi hj h => absurd (by omega : i = j) h) hA
      exact ⟨(adK 0, adV 0), fun _ => ⟨h2 0 (by omega), (h1.1 0 (by omega)).1, (h1.1 0 (by omega)).2.1, (h1.1 0 (by omega)).2.2.1, (h1.1 0 (by omega)).2.2.2⟩⟩
    · exact ⟨(0, 0), fun h => absurd h hi⟩
  obtain ⟨aq, haq⟩ := Classical.axiomOfChoice hstr
  -- the reference that is only passed on
  have hsio : ∃ (sio : Option Nat) (sa : Nat), (∀ k, sio = some k → k = 3002) ∧ va_Z "jdk/internal/util/Preconditions" "SIOOBE_FORMATTER" "Ljava/util/function/BiFunction;" (va_rf (sio.map (fun _ => sa))) (am_A s.heap.size) s s.heap := by
    rcases hZ1 with h | ⟨t, h⟩
    · exact ⟨none, 0, fun k h => (by cases h), h⟩
    · exact ⟨some 3002, t, fun k h => (Option.some.inj h).symm, h⟩
  obtain ⟨sio, sa, hsio1, hsio2⟩ := hsio
  let ad : Nat → Nat := fun r => if r = 3000 then b else if r = 3001 then lt else if r = 3002 then sa else if 2000 ≤ r then (aq (r - 2000)).2 else (aq (r - 1000)).1
  have e3000 : ad 3000 = b := rfl
  have e3001 : ad 3001 = lt := rfl
  have e3002 : ad 3002 = sa := rfl
  have eV : ∀ i, i < 24 → ad (2000 + i) = (aq i).2 := by
    intro i hi
    show (if 2000 + i = 3000 then b else if 2000 + i = 3001 then lt else if 2000 + i = 3002 then sa else if 2000 ≤ 2000 + i then (aq (2000 + i - 2000)).2 else (aq (2000 + i - 1000)).1) = _
    rw [if_neg (by omega), if_neg (by omega), if_neg (by omega), if_pos (by omega), Nat.add_sub_cancel_left]
  have eK : ∀ i, i < 24 → ad (1000 + i) = (aq i).1 := by
    intro i hi
    show (if 1000 + i = 3000 then b else if 1000 + i = 3001 then lt else if 1000 + i = 3002 then sa else if 2000 ≤ 1000 + i then (aq (1000 + i - 2000)).2 else (aq (1000 + i - 1000)).1) = _
    rw [if_neg (by omega), if_neg (by omega), if_neg (by omega), if_neg (by omega), Nat.add_sub_cancel_left]
  refine ⟨ad, sio, fun k hk => by rw [hsio1 k hk]; omega, e3000, ?_, ?_, ?_, ?_, ?_, ?_⟩
  · intro r ty n f h
    simp only [am_XX] at h
    split at h
    · rename_i hr
      subst hr
      cases h
      refine ⟨Or.inl rfl, ?_⟩
      obtain ⟨scr, g1, g2, g3, g4, g5⟩ := hX
      exact ⟨scr, g1, g2, g3, Nat.le_of_eq g4.symm, by rw [g4], fun j hj => by rw [g5 j hj]; show _ = some (Value.int (Int32.ofInt (xs j).toInt)); rw [n_of], hA _ hbl⟩
    · split at h
      · rename_i hr
        subst hr
        simp only [Option.some.injEq, Prod.mk.injEq] at h
        obtain ⟨rfl, rfl, rfl⟩ := h
        refine ⟨Or.inl rfl, ?_⟩
        rw [e3001]
        exact hT
      · split at h
        · rename_i hr
          simp only [Option.some.injEq, Prod.mk.injEq] at h
          obtain ⟨rfl, rfl, rfl⟩ := h
          have hi : r - 2000 < 24 := by omega
          refine ⟨Or.inr rfl, ?_⟩
          have g := (haq (r - 2000) hi).2.2.2.2
          have e : ad r = (aq (r - 2000)).2 := by
            have := eV (r - 2000) hi
            rw [show 2000 + (r - 2000) = r by omega] at this
            exact this
          rw [e]
          have ef : (fun j => Value.int ((am_Sb32.getD (r - 2000) []).getD j 0)) = fun j => Value.int (Int32.ofInt ((am_Sby.getD (r - 2000) []).getD j 0)) := by
            funext j
            rw [am_Sb_eq]
          rw [ef] at g
          exact g
        · cases h
  · intro r k v h
    simp only [am_XX] at h
    split at h
    · rename_i hr
      have hi : r - 1000 < 24 := by omega
      have e : ad r = (aq (r - 1000)).1 := by
        have := eK (r - 1000) hi
        rw [show 1000 + (r - 1000) = r by omega] at this
        exact this
      split at h
      · rename_i hk
        subst hk
        cases h
        rw [e]
        show va_OF "java/lang/String" "value" "[B" (.ref (ad (2000 + (r - 1000)))) _ _ _ _
        rw [eV _ hi]
        exact (haq (r - 1000) hi).2.2.2.1
      · rename_i hk
        cases h
        rw [e]
        have ek : xF k = ("java/lang/String", "coder", "B") := by
          unfold xF
          split
          · exact absurd rfl hk
          · rfl
        rw [ek]
        exact (haq (r - 1000) hi).2.2.1
    · cases h
  · intro k v h
    simp only [am_XX] at h
    split at h
    · cases h
      exact hZ0
    · cases h
      show va_Z _ _ _ (va_rf (sio.map ad)) _ _ _
      have : sio.map ad = sio.map (fun _ => sa) := by
        cases hq : sio with
        | none => rfl
        | some k => rw [hsio1 k hq]; rfl
      rw [this]
      exact hsio2
    · cases h
      exact hZ2
    · cases h
  · intro q hq
    obtain ⟨h1, h2, h3⟩ := am_s_ref q hq
    refine ⟨_, vk_R.of (A := #[Value.ref b]) (hts _ h3) ?_⟩
    have h4 := (haq q.2.2 h1).1
    rw [h2] at h4
    rw [eK _ h1]
    exact h4
  · intro q hq
    exact va_Nw.of rfl (hts _ (am_s_nst q hq))
  · intro r h1 h2
    have hi : r - 1000 < 24 := by omega
    have e : ad r = (aq (r - 1000)).1 := by
      have := eK (r - 1000) hi
      rw [show 1000 + (r - 1000) = r by omega] at this
      exact this
    rw [e]
    exact (haq (r - 1000) hi).2.1
/-- THE LAW, out of a run of the small machine -/
theorem am_start {p : Program} {e : Env} {s : State} {m : MethodId} {below : List Frame} {meth : Method} {c : Code} (l : Launch) {b L : Nat} {xs : Nat → Int32} (HP : am_HP am_P am_B am_sites am_nests) (HI : am_HI am_B am_sites am_nests am_Lb (pL_law, 1, 4, 2))
    (hrun : ∀ sio : Option Nat, ∃ n w1, am_ex am_P am_F (am_XX L xs sio) n 1000 267 0 (am_ent [.inr (.inr (some 3000))] 4) [] ([], fun _ _ => 0) = some (some (.inl 1), w1) ∧ w1.1.length ≤ 600000 ∧ am_sl w1.1 ≤ 7302250)
    (C0 : lw_At p s m meth c b L xs) : W p l e room_1 s m #[Value.ref b] below meth c s.heap [] 0 0 (lw_Z below #[Value.ref b] s) (entryFrame m ([Value.ref b] : List Value).toArray 4) := by
  obtain ⟨hx, hb, hr, hml, hown, hts, hX, hbl, hlocks, hgv⟩ := id C0
  obtain ⟨ad, sio, hsio, hb3, hXO⟩ := am_XO0 hts hX hbl hgv
  obtain ⟨D, cy, hK⟩ := am_K0 hts
  obtain ⟨n, w1, hex, hc1, hc2⟩ := hrun sio
  have hsnd := am_sound (P := am_P) (F := am_F) (B := am_B) (sites := am_sites) (nests := am_nests) (X := am_XX L xs sio) (D := D) (cy := cy) (b0 := s.heap.size) (l := l) HP am_hc_ok (am_XX_ok L xs sio hsio) n
  rw [lg_entry_eq]
  have hent := am_entry (ad := ad) (a := [.inr (.inr (some 3000))]) (n := 4) (fun v hv => by rw [List.mem_singleton.mp hv]; rfl) (by decide)
  have ea : ([.inr (.inr (some 3000))] : List AV).map (co ad) = [Value.ref b] := by
    show [Value.ref (ad 3000)] = _
    rw [hb3]
  rw [ea] at hent
  refine hsnd 1000 267 0 _ [] ([], fun _ _ => 0) (some (.inl 1)) w1 hex p e room_1 s m _ below meth c s.heap [] 0 0 w1.1.length (am_sl w1.1) _ _ ad am_Lb (pL_law, 1, 4, 2) ⟨rfl, HI, hx, hb, hml, hown, fun z => absurd z (by decide), fun w hw => hts w (List.mem_filter.mp hw).1, hK, hXO, by decide, by decide, Nat.le_refl _⟩ hent (fun k q h => by simp [am_ws] at h) ⟨fun i j p q h => by simp [am_ws] at h, fun k q h => by simp [am_ws] at h⟩ va_S.rf (by simp) (by simp [am_sl]) hc1 hc2 ?_
  intro ad' ls' H' locs' pc' i' he hP' hD' hS' hd hrt
  rcases hrt with ⟨rfl, v, hv, -⟩ | ⟨rfl, h3, -⟩ | ⟨rfl, h0, -⟩
  · refine va_forget (fun q hq => hS'.2.2 q hq) ?_
    refine W.widen (k := 600000) (n := 7302250) hc1 hc2 ?_
    exact lw_ret hx hb hr hlocks hd
  · exact absurd h3 (by decide)
  · exact absurd h0 (by decide)
