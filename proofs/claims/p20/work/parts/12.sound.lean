section SOUND
variable {P : Nat → Option am_M} {F : Nat → Option (List (Option (Option Nat)))} {B : Nat → Option am_N} {sites : List (String × Nat × Nat)} {nests : am_nst} {X : am_X} {D : va_G} {cy : Nat → ClassId} {b0 : Nat} {l : Launch}
theorem am_cy {s : State} {t : Nat} {cA : ClassId} (ht : t < 4) (hK : va_K D vwCl (am_ty cy) s) (hA : va_RA s cA (am_tyF t)) : cA = cy t := by
  have g : t = 0 ∨ t = 1 ∨ t = 2 ∨ t = 3 := by omega
  rcases g with rfl | rfl | rfl | rfl
  · exact Option.some.inj (Eq.trans (Eq.symm hA) (hK.2 0 _ rfl).2)
  · exact Option.some.inj (Eq.trans (Eq.symm hA) (hK.2 1 _ rfl).2)
  · exact Option.some.inj (Eq.trans (Eq.symm hA) (hK.2 2 _ rfl).2)
  · exact Option.some.inj (Eq.trans (Eq.symm hA) (hK.2 3 _ rfl).2)
theorem am_z_old (dt : Nat → Nat → Int) (n : Nat) : ∀ a, a < n → ∀ b, am_z dt n a b = dt a b := fun a h b => if_neg (by omega)
set_option maxHeartbeats 8000000 in
/-- a new cell -/
theorem am_new_snd {n : Nat} (ih : am_Snd P F B sites nests X D cy b0 l n) (HC : am_HC F) (HX : am_HX X) {d mi pc nx : Nat} {L : am_L} {st st' : List AV} {w w' w1 : am_W} {r : Option AV} {tg : List Nat} {i : Instr} {cv : Int}
    (h : am_new F i tg L st w = some (st', w')) (hgo : am_ex P F X n d mi nx L st' w' = some (r, w1))
    {p : Program} {e : Env} {R : Room} {s : State} {m : MethodId} {args : Array Value} {below : List Frame} {meth : Method} {c : Code} {H : Heap} {locs : List Loc} {cells slots C S : Nat} {Q : State → Prop} {ls : Array Slot} {ad : Nat → Nat} {b : am_N} {mt : am_M}
    (hFX : am_FX P B sites nests X D cy b0 d mi ad b mt p R s m args meth c) (hL : am_LR ad ls mt.2.2.1 L) (hPp : va_P D vwCl (am_ws ad cy w) H) (hD : va_D (am_A b0) (am_ws ad cy w)) (hS : va_S (am_A b0) s.heap H locs)
    (e1 : cells + w1.1.length = C + w.1.length) (e2 : slots + am_sl w1.1 = S + am_sl w.1) (hC : C ≤ R.cells) (hSs : S ≤ R.slots) (hret : am_RETd D cy b0 ad b mt w r w1 p l e R s m args below meth c C S Q)
    (hdec : decode b.2.1 pc = .ok (i, nx - pc)) (hok : am_okc B b.1.cls (decide (b.1.name = "<init>")) sites nests pc (i, nx, tg, cv) = true) :
    W p l e R s m args below meth c H locs cells slots Q (F0 m pc ls (st.map (co ad))) := by
  obtain ⟨hPm, hHI, hx, hb, hml, hown, hini, hts, hK, hXO, hfr, hlo, hb0⟩ := id hFX
  have hg2 := am_grow _ _ _ _ _ _ _ _ _ hgo
  have hA : ∀ q, s.heap.size ≤ q → am_A b0 q := fun q hq => Nat.le_trans hb0 hq
  -- the address of the new cell
  have key : ∀ (q : Nat) (H1 : Heap) (sh : am_Sh) (rest : List AV) (k0 : Nat), w' = (w.1 ++ [sh], am_z w.2 w.1.length) → st' = .inr (.inr (some w.1.length)) :: rest → am_vw w L rest = true → k0 = (match sh with
      | .inl (_, n) => n
      | .inr (_, fs) => fs.length) → va_P D vwCl (am_ws ad cy w ++ [(q, am_cell (fun k => if k = w.1.length then q else ad k) cy w.1.length sh (am_z w.2 w.1.length))]) H1 → va_D (am_A b0) (am_ws ad cy w ++ [(q, am_cell (fun k => if k = w.1.length then q else ad k) cy w.1.length sh (am_z w.2 w.1.length))]) → va_S (am_A b0) s.heap H1 locs →
      W p l e R s m args below meth c H1 locs (cells + 1) (slots + k0) Q (F0 m nx ls (.ref q :: rest.map (co ad))) := by
    intro q H1 sh rest k0 hw' hst' hvw hk0 hP1 hD1 hS1
    subst hw'
    obtain ⟨v1, v2, v3, v4⟩ := am_vw_inv hvw
    have hee : ∀ k, k < w.1.length ∨ 1000 ≤ k → (fun k => if k = w.1.length then q else ad k) k = ad k := fun k hk => if_neg (by omega)
    have eW : am_ws (fun k => if k = w.1.length then q else ad k) cy (w.1 ++ [sh], am_z w.2 w.1.length) = am_ws ad cy w ++ [(q, am_cell (fun k => if k = w.1.length then q else ad k) cy w.1.length sh (am_z w.2 w.1.length))] := by
      have e0 := am_ws_push (ad := fun k => if k = w.1.length then q else ad k) (cy := cy) (w := w) sh (am_z w.2 w.1.length) q (am_z_old w.2 w.1.length) (if_pos rfl)
      rw [e0, am_ws_ad hee v2]
    rw [← eW] at hP1 hD1
    have hlen : (w.1 ++ [sh]).length = w.1.length + 1 := by rw [List.length_append]; rfl
    have hsl : am_sl (w.1 ++ [sh]) = am_sl w.1 + k0 := by
      rw [am_sl_push, hk0]
      rcases sh with ⟨_, _⟩ | ⟨_, _⟩ <;> rfl
    have hz := ih _ _ _ _ _ _ _ _ hgo p e R s m args below meth c H1 locs (cells + 1) (slots + k0) C S Q ls (fun k => if k = w.1.length then q else ad k) b mt ⟨hPm, hHI, hx, hb, hml, hown, hini, hts, hK, hXO.ad HX.1 HX.2.1 HX.2.2 (fun k hk => hee k (Or.inr hk)), hfr, hlo, hb0⟩ (hL.ad hee v3) hP1 hD1 hS1 (by simp only [hlen]; omega) (by simp only [hsl]; omega) hC hSs (fun ad2 ls2 H2 locs2 pc2 i2 he2 => hret ad2 ls2 H2 locs2 pc2 i2 (fun k hk => by
      have g1 : ¬ ((w.1 ++ [sh]).length ≤ k ∧ k < w1.1.length) := by rw [hlen]; omega
      rw [he2 k g1]
      have g2 := hg2.1
      simp only [hlen] at g2
      exact if_neg (by omega)))
    rw [hst', List.map_cons, am_st_ad hee v4] at hz
    have e3 : co (fun k => if k = w.1.length then q else ad k) (.inr (.inr (some w.1.length))) = .ref q := by
      show Value.ref (if w.1.length = w.1.length then q else ad w.1.length) = _
      rw [if_pos rfl]
    rw [e3] at hz
    exact hz
  unfold am_new at h
  split at h
  · rename_i k
    split at h
    · rename_i fs hF
      obtain ⟨h1, h2⟩ := am_cond_some h
      cases h2
      simp only [am_okc] at hok
      obtain ⟨hnx, hok⟩ := Bool.and_eq_true_iff.mp hok
      have hnx := of_decide_eq_true hnx
      split at hok
      · rename_i ci p1 p2 p3 _
        cases hv : vwCl[ci]? with
        | none => rw [hv] at hok; cases hok
        | some q0 =>
          rw [hv] at hok
          obtain ⟨w1', hok⟩ := Bool.and_eq_true_iff.mp hok
          obtain ⟨w2', w3'⟩ := Bool.and_eq_true_iff.mp hok
          obtain ⟨c1, c2, c3, c4⟩ := HC
          obtain ⟨ty, fs2, f1, f2, f3, f4⟩ := c4 ci q0 hv
          have ef : fs2 = fs := Option.some.inj (f1.symm.trans hF)
          subst ef
          have hmem := List.mem_of_getElem? hv
          have hsl2 : am_sl (w.1 ++ [.inr (ci, fs2)]) = am_sl w.1 + q0.2.2 := by rw [am_sl_push, ← f2]
          have hg3 := hg2.2.1
          simp only [List.headD_cons, hsl2] at hg3
          have hg4 := hg2.1
          simp only [List.length_append, List.length_cons, List.length_nil] at hg4
          have hcl : cells + 1 ≤ R.cells := by omega
          have hsl3 : slots + q0.2.2 ≤ R.slots := by omega
          obtain ⟨C0, T, N⟩ := q0
          dsimp only at f2 f3 f4 hsl3
          refine va_new (fs := fs2.mapIdx (fun j o => match o with
            | none => Value.int (Int32.ofInt (am_z w.2 w.1.length w.1.length j))
            | some r => va_rf (r.map (fun k => ad k)))) hx hb hts (c1 _ hmem) ty f3 hown (hts _ (wok_in w1')) (hts _ (wok_in w2')) (hts _ (wok_in w3')) hK hPp hD hS hA hv ?_ hcl hsl3 (am_dec hdec hnx) (fun q H1 hP1 hD1 hS1 => ?_)
          · intro j hj
            rcases f4 j hj with ⟨g1, g2⟩ | ⟨g1, g2⟩
            · rw [g2]
              unfold vp_V
              rw [List.getD_eq_getElem?_getD, List.getElem?_mapIdx, g1]
              show Value.int 0 = Value.int (Int32.ofInt (am_z w.2 w.1.length w.1.length j))
              unfold am_z
              rw [if_pos rfl]
              rfl
            · rw [g2]
              unfold vp_V
              rw [List.getD_eq_getElem?_getD, List.getElem?_mapIdx, g1]
              rfl
          · subst hnx
            have ec : am_cell (fun k => if k = w.1.length then q else ad k) cy w.1.length (.inr (ci, fs2)) (am_z w.2 w.1.length) = .inr (ci, fs2.mapIdx (fun j o => match o with
              | none => Value.int (Int32.ofInt (am_z w.2 w.1.length w.1.length j))
              | some r => va_rf (r.map (fun k => ad k)))) := by
              show Sum.inr (ci, _) = Sum.inr (ci, _)
              congr 2
              apply List.ext_getElem?
              intro j
              rw [List.getElem?_mapIdx, List.getElem?_mapIdx]
              cases hj : fs2[j]? with
              | none => rfl
              | some o =>
                have hjl : j < N := by rw [← f2]; exact (List.getElem?_eq_some_iff.mp hj).1
                rcases f4 j hjl with ⟨g1, -⟩ | ⟨g1, -⟩
                · rw [hj] at g1; cases g1; rfl
                · rw [hj] at g1; cases g1; rfl
            rw [← ec] at hP1 hD1
            exact key q H1 (.inr (ci, fs2)) st N rfl rfl h1 f2.symm hP1 hD1 hS1
      · cases hok
    · cases h
  · rename_i t
    split at h
    · rename_i nn rest
      obtain ⟨h1, h2⟩ := am_cond_some h
      cases h2
      obtain ⟨h1, h3⟩ := Bool.and_eq_true_iff.mp h1
      have h3 := of_decide_eq_true h3
      simp only [am_okc] at hok
      obtain ⟨hnx, hok⟩ := Bool.and_eq_true_iff.mp hok
      have hnx := of_decide_eq_true hnx
      split at hok
      · rename_i ty p1 _
        obtain ⟨w1', hok⟩ := Bool.and_eq_true_iff.mp hok
        obtain ⟨w2', w3'⟩ := Bool.and_eq_true_iff.mp hok
        have w1' := of_decide_eq_true w1'
        have w2' := am_blt w2'
        obtain ⟨n1, n2⟩ := n_pos (j := nn) h3.1 (by omega)
        have hsl2 : am_sl (w.1 ++ [.inl (ty, nn.toNat)]) = am_sl w.1 + nn.toNat := by rw [am_sl_push]
        have hg3 := hg2.2.1
        simp only [List.headD_cons, hsl2] at hg3
        have hg4 := hg2.1
        simp only [List.length_append, List.length_cons, List.length_nil] at hg4
        have hcb : componentBytes (am_tyF ty) ≤ 8 := by
          have g : ty = 0 ∨ ty = 1 ∨ ty = 2 ∨ ty = 3 := by omega
          rcases g with rfl | rfl | rfl | rfl <;> decide
        have hby : nn.toNat * componentBytes (am_tyF ty) ≤ 536870912 := Nat.le_trans (Nat.mul_le_mul_left _ hcb) (by omega)
        have hz0 : ∀ j, am_z w.2 w.1.length w.1.length j = 0 := fun j => if_pos rfl
        refine va_newa (ty := am_tyF ty) (a0 := (nn.toNat, if ty = 2 then .inr (.inl (fun j => Int64.ofInt (am_z w.2 w.1.length w.1.length j))) else .inl (fun j => Int32.ofInt (am_z w.2 w.1.length w.1.length j)))) hx hb (hts _ (wok_in w3')) w1' hK hPp hD hS hA ?_ n1 n2 hby (by omega) (by omega) (am_dec hdec hnx) (fun q cA H1 hK1 hP1 hD1 hS1 => ?_)
        · intro cA
          have g : ty = 0 ∨ ty = 1 ∨ ty = 2 ∨ ty = 3 := by omega
          rcases g with rfl | rfl | rfl | rfl
          · simp only [hz0]; rfl
          · simp only [hz0]; rfl
          · simp only [hz0]; rfl
          · simp only [hz0]; rfl
        · subst hnx
          have eA : cA = cy ty := am_cy w2' hK (hK1.2 4 _ rfl).2
          subst eA
          exact key q H1 (.inl (ty, nn.toNat)) rest nn.toNat rfl rfl h1 rfl hP1 hD1 hS1
      · cases hok
    · cases h
  · cases h
set_option maxHeartbeats 8000000 in
theorem am_sound (HP : am_HP P B sites nests) (HC : am_HC F) (HX : am_HX X) : ∀ n, am_Snd P F B sites nests X D cy b0 l n := by
  intro n
  induction n with
  | zero => intro d mi pc L st w r w1 h; cases h
  | succ n ih =>
    intro d mi pc L st w r w1 h p e R s m args below meth c H locs cells slots C S Q ls ad b mt hFX hL hPp hD hS e1 e2 hC hSs hret
    obtain ⟨hPm, hHI, hx, hb, hml, hown, hini, hts, hK, hXO, hfr, hlo, hb0⟩ := id hFX
    obtain ⟨HC1, HC2, HC3, HC4⟩ := id HC
    unfold am_ex at h
    rw [hPm] at h
    dsimp only at h
    split at h
    · cases h
    · rename_i i nx tg cv hf
      have hI := hHI _ (am_fet_mem _ _ _ hf)
      obtain ⟨hd00, hk00⟩ := Bool.and_eq_true_iff.mp hI
      have hdec : decode b.2.1 pc = .ok (i, nx - pc) := of_decide_eq_true hd00
      have hok : am_okc B b.1.cls (decide (b.1.name = "<init>")) sites nests pc (i, nx, tg, cv) = true := hk00
      clear hI hd00 hk00
      have go0 : ∀ (pc' : Nat) (st' : List AV), am_ex P F X n d mi pc' L st' w = some (r, w1) → W p l e R s m args below meth c H locs cells slots Q (F0 m pc' ls (st'.map (co ad))) :=
        fun pc' st' h' => ih _ _ _ _ _ _ _ _ h' p e R s m args below meth c H locs cells slots C S Q ls ad b mt hFX hL hPp hD hS e1 e2 hC hSs hret
      have hsmp : ∀ (L' : am_L) (st' : List AV) (w' : am_W), am_smp X i tg cv L st w = some (L', st', w') → am_ex P F X n d mi nx L' st' w' = some (r, w1) → (∀ k, i = .invokestatic k → ¬ Nat.blt (tg.headD 0) 9000 = true) → (∀ k, i = .invokespecial k → ¬ Nat.blt (tg.headD 0) 9000 = true) → W p l e R s m args below meth c H locs cells slots Q (F0 m pc ls (st.map (co ad))) := by
        intro L' st' w' hs h' g1 g2
        have hsame := am_smp_same hs
        refine am_smp_snd hx hb hml hts hown (fun z => hini (of_decide_eq_true z)) HC1 HC2 HC3 hK hXO ⟨by omega, by omega⟩ hL hPp hD hS hdec (am_okc_smp hok hs g1 g2) hs ?_
        intro ls' H' locs' hL' hP' hD' hS'
        exact ih _ _ _ _ _ _ _ _ h' p e R s m args below meth c H' locs' cells slots C S Q ls' ad b mt hFX hL' hP' hD' hS' (by rw [hsame.1]; exact e1) (by rw [hsame.2]; exact e2) hC hSs (fun ad2 ls2 H2 locs2 pc2 i2 he2 => hret ad2 ls2 H2 locs2 pc2 i2 (by rw [hsame.1] at he2; exact he2))
      have hret1 : ∀ (v : Option AV), r = v → w1 = w → nx = pc + 1 → am_rt mt.2.2.2 i v → W p l e R s m args below meth c H locs cells slots Q (F0 m pc ls (v.toList.map (co ad))) := by
        intro v hr hw hnx hrt
        subst hr; subst hw
        have ec : cells = C := by omega
        have es : slots = S := by omega
        subst ec; subst es
        exact hret ad ls H locs pc i (fun _ _ => rfl) hPp hD hS (am_dec hdec hnx) hrt
      split at h
      · -- goto
        simp only [am_okc] at hok
        have hn := of_decide_eq_true hok
        exact lv_goto hx hb (am_dec hdec hn.1) hn.2 (go0 _ _ h)
      · -- if_icmp
        rename_i cc off
        simp only [am_okc] at hok
        have hn := of_decide_eq_true hok
        have hd := am_dec hdec hn.1
        obtain ⟨hnx, ht⟩ := hn
        subst hnx
        split at h
        · rename_i bb aa rr
          cases cc
          case eq =>
            simp only [am_cmp, decide_eq_true_eq] at h
            exact lv_icmp_eq hx hb hd ht (fun z => go0 _ _ (by rw [if_pos (show wr aa = wr bb from n_eq.mp z)] at h; exact h)) (fun z => go0 _ _ (by rw [if_neg (fun y : wr aa = wr bb => z (n_eq.mpr y))] at h; exact h))
          case ne =>
            simp only [am_cmp, decide_eq_true_eq] at h
            exact lv_icmp_ne hx hb hd ht (fun z => go0 _ _ (by rw [if_pos (show ¬ wr aa = wr bb from fun y => z (n_eq.mpr y))] at h; exact h)) (fun z => go0 _ _ (by rw [if_neg (fun y => y (show wr aa = wr bb from n_eq.mp z))] at h; exact h))
          case lt =>
            simp only [am_cmp, decide_eq_true_eq] at h
            exact lv_icmp_lt hx hb hd ht (fun z => go0 _ _ (by rw [if_pos (show wr aa < wr bb from n_lt.mp z)] at h; exact h)) (fun z => go0 _ _ (by rw [if_neg (fun y : wr aa < wr bb => z (n_lt.mpr y))] at h; exact h))
          case ge =>
            simp only [am_cmp, decide_eq_true_eq] at h
            exact lv_icmp_ge hx hb hd ht (fun z => go0 _ _ (by rw [if_pos (show wr bb ≤ wr aa from n_le.mp z)] at h; exact h)) (fun z => go0 _ _ (by rw [if_neg (fun y : wr bb ≤ wr aa => z (n_le.mpr y))] at h; exact h))
          case gt =>
            simp only [am_cmp, decide_eq_true_eq] at h
            exact lv_icmp_gt hx hb hd ht (fun z => go0 _ _ (by rw [if_pos (show wr bb < wr aa from n_lt.mp z)] at h; exact h)) (fun z => go0 _ _ (by rw [if_neg (fun y : wr bb < wr aa => z (n_lt.mpr y))] at h; exact h))
          case le =>
            simp only [am_cmp, decide_eq_true_eq] at h
            exact lv_icmp_le hx hb hd ht (fun z => go0 _ _ (by rw [if_pos (show wr aa ≤ wr bb from n_le.mp z)] at h; exact h)) (fun z => go0 _ _ (by rw [if_neg (fun y : wr aa ≤ wr bb => z (n_le.mpr y))] at h; exact h))
        · cases h
      · -- if
        rename_i cc off
        simp only [am_okc] at hok
        have hn := of_decide_eq_true hok
        have hd := am_dec hdec hn.1
        obtain ⟨hnx, ht⟩ := hn
        subst hnx
        split at h
        · rename_i aa rr
          have z0 : (0 : Int32) = Int32.ofInt 0 := rfl
          have w0 : wr 0 = 0 := rfl
          cases cc
          case eq =>
            simp only [am_cmp, decide_eq_true_eq] at h
            exact lv_if_eq hx hb hd ht (fun z => go0 _ _ (by rw [z0] at z; rw [if_pos (show wr aa = 0 from n_eq.mp z)] at h; exact h)) (fun z => go0 _ _ (by rw [z0] at z; rw [if_neg (fun y : wr aa = 0 => z (n_eq.mpr y))] at h; exact h))
          case ne =>
            simp only [am_cmp, decide_eq_true_eq] at h
            exact lv_if_ne hx hb hd ht (fun z => go0 _ _ (by rw [z0] at z; rw [if_pos (show ¬ wr aa = 0 from fun y => z (n_eq.mpr y))] at h; exact h)) (fun z => go0 _ _ (by rw [z0] at z; rw [if_neg (fun y => y (show wr aa = 0 from n_eq.mp z))] at h; exact h))
          case lt =>
            simp only [am_cmp, decide_eq_true_eq] at h
            exact lv_if_lt hx hb hd ht (fun z => go0 _ _ (by rw [z0] at z; rw [if_pos (show wr aa < 0 from n_lt.mp z)] at h; exact h)) (fun z => go0 _ _ (by rw [z0] at z; rw [if_neg (fun y : wr aa < 0 => z (n_lt.mpr y))] at h; exact h))
          case ge =>
            simp only [am_cmp, decide_eq_true_eq] at h
            exact lv_if_ge hx hb hd ht (fun z => go0 _ _ (by rw [z0] at z; rw [if_pos (show 0 ≤ wr aa from n_le.mp z)] at h; exact h)) (fun z => go0 _ _ (by rw [z0] at z; rw [if_neg (fun y : 0 ≤ wr aa => z (n_le.mpr y))] at h; exact h))
          case gt =>
            simp only [am_cmp, decide_eq_true_eq] at h
            exact lv_if_gt hx hb hd ht (fun z => go0 _ _ (by rw [z0] at z; rw [if_pos (show 0 < wr aa from n_lt.mp z)] at h; exact h)) (fun z => go0 _ _ (by rw [z0] at z; rw [if_neg (fun y : 0 < wr aa => z (n_lt.mpr y))] at h; exact h))
          case le =>
            simp only [am_cmp, decide_eq_true_eq] at h
            exact lv_if_le hx hb hd ht (fun z => go0 _ _ (by rw [z0] at z; rw [if_pos (show wr aa ≤ 0 from n_le.mp z)] at h; exact h)) (fun z => go0 _ _ (by rw [z0] at z; rw [if_neg (fun y : wr aa ≤ 0 => z (n_le.mpr y))] at h; exact h))
        · cases h
      · -- tableswitch
        rename_i dflt lo hi offs
        simp only [am_okc] at hok
        obtain ⟨t1, t2, t3⟩ := of_decide_eq_true hok
        split at h
        · rename_i aa rr
          split at h
          · rename_i hcond
            exact lv_tableOut hx hb hdec (by rw [n_toInt]; exact hcond) t1 (go0 _ _ h)
          · rename_i hcond
            have j1 : (wr aa - lo).toNat < offs.size := by rw [t2]; omega
            have j2 : offs[(wr aa - lo).toNat]? = some (offs.getD (wr aa - lo).toNat 0) := by
              rw [Array.getD_eq_getD_getElem?, Array.getElem?_eq_getElem j1]; rfl
            refine lv_tableIn (off := offs.getD (wr aa - lo).toNat 0) hx hb hdec (by rw [n_toInt]; omega) (by rw [n_toInt]; omega) (by rw [n_toInt]; exact j2) (t3 _ j1) (go0 _ _ h)
        · cases h
      · split at h
        · rename_i v
          obtain ⟨h1, h2⟩ := am_cond_some h
          cases h2
          simp only [am_okc] at hok
          exact hret1 (some (.inl v)) rfl rfl (of_decide_eq_true hok) (Or.inl ⟨rfl, v, rfl, h1⟩)
        · cases h
      · split at h
        · rename_i v
          obtain ⟨h1, h2⟩ := am_cond_some h
          cases h2
          simp only [am_okc] at hok
          exact hret1 (some (.inr (.inl v))) rfl rfl (of_decide_eq_true hok) (Or.inr (Or.inl ⟨rfl, Nat.eq_of_beq_eq_true h1, v, rfl⟩))
        · cases h
      · split at h
        · obtain ⟨h1, h2⟩ := am_cond_some h
          cases h2
          simp only [am_okc] at hok
          exact hret1 none rfl rfl (of_decide_eq_true hok) (Or.inr (Or.inr ⟨rfl, Nat.eq_of_beq_eq_true h1, rfl⟩))
        · cases h
      · split at h
        · rename_i st' w' hn
          exact am_new_snd ih HC HX hn h hFX hL hPp hD hS e1 e2 hC hSs hret hdec hok
        · cases h
      · split at h
        · rename_i st' w' hn
          exact am_new_snd ih HC HX hn h hFX hL hPp hD hS e1 e2 hC hSs hret hdec hok
        · cases h
      · exact am_call_snd ih HP HX h hFX hL hPp hD hS e1 e2 hC hSs hret hdec hok (Or.inl ⟨rfl, _, rfl⟩)
      · cases h9 : Nat.blt (tg.headD 0) 9000
        · rw [h9] at h
          dsimp only [cond_false] at h
          split at h
          · rename_i L' st' w' hs
            exact hsmp _ _ _ hs h (fun k _ => by rw [h9]; exact Bool.false_ne_true) (fun k _ => by rw [h9]; exact Bool.false_ne_true)
          · cases h
        · rw [h9] at h
          exact am_call_snd ih HP HX h hFX hL hPp hD hS e1 e2 hC hSs hret hdec hok (Or.inr ⟨h9, Or.inl ⟨rfl, _, rfl⟩⟩)
      · cases h9 : Nat.blt (tg.headD 0) 9000
        · rw [h9] at h
          dsimp only [cond_false] at h
          split at h
          · rename_i L' st' w' hs
            exact hsmp _ _ _ hs h (fun k _ => by rw [h9]; exact Bool.false_ne_true) (fun k _ => by rw [h9]; exact Bool.false_ne_true)
          · cases h
        · rw [h9] at h
          exact am_call_snd ih HP HX h hFX hL hPp hD hS e1 e2 hC hSs hret hdec hok (Or.inr ⟨h9, Or.inr ⟨rfl, _, rfl⟩⟩)
      · split at h
        · rename_i L' st' w' hs
          refine hsmp _ _ _ hs h ?_ ?_
          · intro k hk
            exact (‹∀ k, i = Instr.invokestatic k → False› k hk).elim
          · intro k hk
            exact (‹∀ k, i = Instr.invokespecial k → False› k hk).elim
        · cases h
end SOUND
