section RULES
variable {X : am_X} {d mi pc : Nat} {L : am_L} {st : List AV} {w : am_W} {Q : Option AV → am_W → Prop}
theorem go_to {k pc' : Nat} {L' : am_L} {st' : List AV} {w' : am_W} (h : ∀ n, am_ex am_P am_F X (n + k) d mi pc L st w = am_ex am_P am_F X n d mi pc' L' st' w') (g : GO X d mi pc' L' st' w' Q) : GO X d mi pc L st w Q := by
  obtain ⟨n, r, w1, h1, h2⟩ := g
  exact ⟨n + k, r, w1, (h n).trans h1, h2⟩
theorem go_ret {k : Nat} {r : Option AV} {w1 : am_W} (h : ∀ n, am_ex am_P am_F X (n + k) d mi pc L st w = some (r, w1)) (g : Q r w1) : GO X d mi pc L st w Q := ⟨0 + k, r, w1, h 0, g⟩
theorem go_retv {mt : am_M} {nx : Nat} {tg : List Nat} {cv v : Int} (hP : am_P mi = some mt) (hf : am_fet mt.1 pc = some (.ireturn, nx, tg, cv)) (hk : am_rk mt.2.2.2 v = true) (g : Q (some (.inl v)) w) : GO X d mi pc L [.inl v] w Q := by
  refine ⟨0 + 1, some (.inl v), w, ?_, g⟩
  unfold am_ex
  rw [hP]
  dsimp only
  rw [hf]
  dsimp only
  rw [hk]
  rfl
theorem go_if {k p1 p2 : Nat} {c c' : Prop} [Decidable c] {L' : am_L} {st' : List AV} {w' : am_W} (h : ∀ n, am_ex am_P am_F X (n + k) d mi pc L st w = if c then am_ex am_P am_F X n d mi p1 L' st' w' else am_ex am_P am_F X n d mi p2 L' st' w') (hc : c ↔ c') (gt : c' → GO X d mi p1 L' st' w' Q) (gf : ¬ c' → GO X d mi p2 L' st' w' Q) : GO X d mi pc L st w Q := by
  by_cases hz : c
  · obtain ⟨n, r, w1, h1, h2⟩ := gt (hc.mp hz)
    exact ⟨n + k, r, w1, (h n).trans (by rw [if_pos hz]; exact h1), h2⟩
  · obtain ⟨n, r, w1, h1, h2⟩ := gf (fun y => hz (hc.mpr y))
    exact ⟨n + k, r, w1, (h n).trans (by rw [if_neg hz]; exact h1), h2⟩
theorem GO.mono {Q' : Option AV → am_W → Prop} (g : GO X d mi pc L st w Q) (h : ∀ r w', Q r w' → Q' r w') : GO X d mi pc L st w Q' := by
  obtain ⟨n, r, w1, h1, h2⟩ := g
  exact ⟨n, r, w1, h1, h _ _ h2⟩
def am_at (mi pc : Nat) : Option am_I := match am_P mi with
  | some mt => am_fet mt.1 pc
  | none => none
def am_pln (i : Instr) : Bool := match i with
  | .goto _ => false
  | .if_icmp _ _ => false
  | .ifCond _ _ => false
  | .tableswitch _ _ _ _ => false
  | .ireturn => false
  | .lreturn => false
  | .return_ => false
  | .new _ => false
  | .newarray _ => false
  | .invokevirtual _ => false
  | .invokestatic _ => false
  | .invokespecial _ => false
  | _ => true
theorem am_at_ex {i : Instr} {nx : Nat} {tg : List Nat} {cv : Int} (hf : am_at mi pc = some (i, nx, tg, cv)) : ∃ mt, am_P mi = some mt ∧ am_fet mt.1 pc = some (i, nx, tg, cv) := by
  unfold am_at at hf
  split at hf
  · rename_i mt h; exact ⟨mt, h, hf⟩
  · cases hf
theorem go_smp {i : Instr} {nx : Nat} {tg : List Nat} {cv : Int} {L' : am_L} {st' : List AV} {w' : am_W} (hf : am_at mi pc = some (i, nx, tg, cv)) (hi : am_pln i = true) (hs : am_smp X i tg cv L st w = some (L', st', w')) (g : GO X d mi nx L' st' w' Q) : GO X d mi pc L st w Q := by
  obtain ⟨mt, h1, h2⟩ := am_at_ex hf
  obtain ⟨n, r, w1, h3, h4⟩ := g
  refine ⟨n + 1, r, w1, ?_, h4⟩
  unfold am_ex
  rw [h1]
  dsimp only
  rw [h2]
  dsimp only
  cases i
  case goto => cases hi
  case if_icmp => cases hi
  case ifCond => cases hi
  case tableswitch => cases hi
  case ireturn => cases hi
  case lreturn => cases hi
  case return_ => cases hi
  case new => cases hi
  case newarray => cases hi
  case invokevirtual => cases hi
  case invokestatic => cases hi
  case invokespecial => cases hi
  all_goals (dsimp only; rw [hs]; exact h3)
theorem go_cpy {k nx : Nat} {tg : List Nat} {cv : Int} {L' : am_L} {st' : List AV} {w' : am_W} (hf : am_at mi pc = some (.invokestatic k, nx, tg, cv)) (hi : Nat.blt (tg.headD 0) 9000 = false) (hs : am_smp X (.invokestatic k) tg cv L st w = some (L', st', w')) (g : GO X d mi nx L' st' w' Q) : GO X d mi pc L st w Q := by
  obtain ⟨mt, h1, h2⟩ := am_at_ex hf
  obtain ⟨n, r, w1, h3, h4⟩ := g
  refine ⟨n + 1, r, w1, ?_, h4⟩
  unfold am_ex
  rw [h1]
  dsimp only
  rw [h2]
  dsimp only
  rw [hi, hs]
  exact h3
def am_isv (i : Instr) : Option Bool := match i with
  | .invokevirtual _ => some true
  | .invokestatic _ => some false
  | .invokespecial _ => some true
  | _ => none
theorem go_call {i : Instr} {nx mj pl : Nat} {tl : List Nat} {cv : Int} {mu : am_M} {virt : Bool} {Q' : Option AV → am_W → Prop} (hf : am_at mi pc = some (i, nx, mj :: pl :: tl, cv)) (hv : am_isv i = some virt) (h9 : Nat.blt mj 9000 = true) (hP : am_P mj = some mu)
    (hb : (Nat.ble mu.2.1 st.length && (Nat.ble ((st.drop mu.2.1).map am_cat).sum 8 && ((st.take mu.2.1).all (fun v => Nat.beq (am_cat v) 1) && (!virt || am_rcv w (tl.headD 99) st[mu.2.1 - 1]?)))) = true)
    (hs : GO X d mj 0 (am_ent (st.take mu.2.1).reverse mu.2.2.1) [] w Q') (g : ∀ r w', Q' r w' → w'.1 = w.1 ∧ GO X (d + 1) mi nx L (r.toList ++ st.drop mu.2.1) w' Q) : GO X (d + 1) mi pc L st w Q := by
  obtain ⟨mt, h1, h2⟩ := am_at_ex hf
  obtain ⟨n1, r1, w1, h3, h4⟩ := hs
  obtain ⟨hl, n2, r2, w2, h5, h6⟩ := g _ _ h4
  have a1 : am_ex am_P am_F X (n1 + n2) d mj 0 (am_ent (st.take mu.2.1).reverse mu.2.2.1) [] w = some (r1, w1) := am_mono h3 n2
  have a2 : am_ex am_P am_F X (n1 + n2) (d + 1) mi nx L (r1.toList ++ st.drop mu.2.1) w1 = some (r2, w2) := by
    rw [Nat.add_comm]; exact am_mono h5 n1
  have hbl : Nat.beq w1.1.length w.1.length = true := by rw [hl]; exact Nat.beq_refl _
  have key : ∀ v, virt = v → am_call am_P w (d + 1) (mj :: pl :: tl) L st v (fun d' mj L0 => am_ex am_P am_F X (n1 + n2) d' mj 0 L0 [] w) (fun st' w' => am_ex am_P am_F X (n1 + n2) (d + 1) mi nx L st' w') = some (r2, w2) := by
    intro v hv2
    subst hv2
    unfold am_call
    dsimp only
    rw [hP]
    dsimp only
    rw [hb]
    dsimp only [cond_true]
    rw [a1]
    dsimp only
    rw [hbl]
    exact a2
  refine ⟨n1 + n2 + 1, r2, w2, ?_, h6⟩
  unfold am_ex
  rw [h1]
  dsimp only
  rw [h2]
  dsimp only
  unfold am_isv at hv
  split at hv
  · exact key _ (Option.some.inj hv).symm
  · dsimp only
    rw [show Nat.blt ((mj :: pl :: tl).headD 0) 9000 = true from h9]
    exact key _ (Option.some.inj hv).symm
  · dsimp only
    rw [show Nat.blt ((mj :: pl :: tl).headD 0) 9000 = true from h9]
    exact key _ (Option.some.inj hv).symm
  · cases hv
/-- compares, in range -/
abbrev iR (x : Int) : Prop := -2147483648 ≤ x ∧ x ≤ 2147483647
theorem wr_R {x : Int} (h : iR x) : wr x = x := wr_id h.1 (by omega)
theorem c_eq {a b : Int} (ha : iR a) (hb : iR b) : (am_cmp .eq (wr a) (wr b) = true) ↔ a = b := by rw [wr_R ha, wr_R hb]; exact decide_eq_true_iff
theorem c_ne {a b : Int} (ha : iR a) (hb : iR b) : (am_cmp .ne (wr a) (wr b) = true) ↔ a ≠ b := by rw [wr_R ha, wr_R hb]; exact decide_eq_true_iff
theorem c_lt {a b : Int} (ha : iR a) (hb : iR b) : (am_cmp .lt (wr a) (wr b) = true) ↔ a < b := by rw [wr_R ha, wr_R hb]; exact decide_eq_true_iff
theorem c_ge {a b : Int} (ha : iR a) (hb : iR b) : (am_cmp .ge (wr a) (wr b) = true) ↔ b ≤ a := by rw [wr_R ha, wr_R hb]; exact decide_eq_true_iff
theorem c_gt {a b : Int} (ha : iR a) (hb : iR b) : (am_cmp .gt (wr a) (wr b) = true) ↔ b < a := by rw [wr_R ha, wr_R hb]; exact decide_eq_true_iff
theorem c_le {a b : Int} (ha : iR a) (hb : iR b) : (am_cmp .le (wr a) (wr b) = true) ↔ a ≤ b := by rw [wr_R ha, wr_R hb]; exact decide_eq_true_iff
theorem z_eq {a : Int} (ha : iR a) : (am_cmp .eq (wr a) 0 = true) ↔ a = 0 := by rw [wr_R ha]; exact decide_eq_true_iff
theorem z_ne {a : Int} (ha : iR a) : (am_cmp .ne (wr a) 0 = true) ↔ a ≠ 0 := by rw [wr_R ha]; exact decide_eq_true_iff
theorem z_lt {a : Int} (ha : iR a) : (am_cmp .lt (wr a) 0 = true) ↔ a < 0 := by rw [wr_R ha]; exact decide_eq_true_iff
theorem z_ge {a : Int} (ha : iR a) : (am_cmp .ge (wr a) 0 = true) ↔ 0 ≤ a := by rw [wr_R ha]; exact decide_eq_true_iff
theorem z_gt {a : Int} (ha : iR a) : (am_cmp .gt (wr a) 0 = true) ↔ 0 < a := by rw [wr_R ha]; exact decide_eq_true_iff
theorem z_le {a : Int} (ha : iR a) : (am_cmp .le (wr a) 0 = true) ↔ a ≤ 0 := by rw [wr_R ha]; exact decide_eq_true_iff
theorem u_eq {a b : Int} : (am_cmp .eq a b = true) ↔ a = b := decide_eq_true_iff
theorem u_ne {a b : Int} : (am_cmp .ne a b = true) ↔ a ≠ b := decide_eq_true_iff
theorem u_lt {a b : Int} : (am_cmp .lt a b = true) ↔ a < b := decide_eq_true_iff
theorem u_ge {a b : Int} : (am_cmp .ge a b = true) ↔ b ≤ a := decide_eq_true_iff
theorem u_gt {a b : Int} : (am_cmp .gt a b = true) ↔ b < a := decide_eq_true_iff
theorem u_le {a b : Int} : (am_cmp .le a b = true) ↔ a ≤ b := decide_eq_true_iff
/-- array reads and writes, divisions -/
theorem s_iald {tg : List Nat} {cv j : Int} {r n : Nat} {f : Nat → Int} {rest : List AV} (hw : am_arr X w r = some (0, n, f)) (h : 0 ≤ j ∧ j < n) : am_smp X .iaload tg cv L (.inl j :: .inr (.inr (some r)) :: rest) w = some (L, .inl (f j.toNat) :: rest, w) := by
  simp only [am_smp, hw, if_pos h]
theorem s_bald {tg : List Nat} {cv j : Int} {r n : Nat} {f : Nat → Int} {rest : List AV} (hw : am_arr X w r = some (1, n, f)) (h : 0 ≤ j ∧ j < n) : am_smp X .baload tg cv L (.inl j :: .inr (.inr (some r)) :: rest) w = some (L, .inl (f j.toNat) :: rest, w) := by
  simp only [am_smp, hw, if_pos h]
theorem s_zald {tg : List Nat} {cv j : Int} {r n : Nat} {f : Nat → Int} {rest : List AV} (hw : am_arr X w r = some (3, n, f)) (h : 0 ≤ j ∧ j < n) : am_smp X .baload tg cv L (.inl j :: .inr (.inr (some r)) :: rest) w = some (L, .inl (f j.toNat) :: rest, w) := by
  simp only [am_smp, hw, if_pos h]
theorem s_lald {tg : List Nat} {cv j : Int} {r n : Nat} {f : Nat → Int} {rest : List AV} (hw : am_arr X w r = some (2, n, f)) (h : 0 ≤ j ∧ j < n) : am_smp X .laload tg cv L (.inl j :: .inr (.inr (some r)) :: rest) w = some (L, .inr (.inl (f j.toNat)) :: rest, w) := by
  simp only [am_smp, hw, if_pos h]
theorem s_iastw {tg : List Nat} {cv j x : Int} {r n : Nat} {rest : List AV} (hw : am_arw w r = some (0, n)) (h : 0 ≤ j ∧ j < n) : am_smp X .iastore tg cv L (.inl x :: .inl j :: .inr (.inr (some r)) :: rest) w = some (L, rest, (w.1, u2 w.2 r j.toNat (wr x))) := by
  simp only [am_smp, hw, if_pos h]
theorem s_iast {tg : List Nat} {cv j x : Int} {r n : Nat} {rest : List AV} (hw : am_arw w r = some (0, n)) (h : 0 ≤ j ∧ j < n) (hx : iR x) : am_smp X .iastore tg cv L (.inl x :: .inl j :: .inr (.inr (some r)) :: rest) w = some (L, rest, (w.1, u2 w.2 r j.toNat x)) := by
  rw [s_iastw hw h, wr_R hx]
theorem s_bast {tg : List Nat} {cv j x : Int} {r n : Nat} {rest : List AV} (hw : am_arw w r = some (1, n)) (h : 0 ≤ j ∧ j < n) : am_smp X .bastore tg cv L (.inl x :: .inl j :: .inr (.inr (some r)) :: rest) w = some (L, rest, (w.1, u2 w.2 r j.toNat (am_i2b x))) := by
  simp only [am_smp, hw, if_pos h]
theorem s_zast {tg : List Nat} {cv j x : Int} {r n : Nat} {rest : List AV} (hw : am_arw w r = some (3, n)) (h : 0 ≤ j ∧ j < n) (hx : x = 0 ∨ x = 1) : am_smp X .bastore tg cv L (.inl x :: .inl j :: .inr (.inr (some r)) :: rest) w = some (L, rest, (w.1, u2 w.2 r j.toNat x)) := by
  simp only [am_smp, hw, if_pos (And.intro h hx)]
theorem s_lastw {tg : List Nat} {cv j x : Int} {r n : Nat} {rest : List AV} (hw : am_arw w r = some (2, n)) (h : 0 ≤ j ∧ j < n) : am_smp X .lastore tg cv L (.inr (.inl x) :: .inl j :: .inr (.inr (some r)) :: rest) w = some (L, rest, (w.1, u2 w.2 r j.toNat (wl x))) := by
  simp only [am_smp, hw, if_pos h]
theorem s_last {tg : List Nat} {cv j x : Int} {r n : Nat} {rest : List AV} (hw : am_arw w r = some (2, n)) (h : 0 ≤ j ∧ j < n) (hx : -9223372036854775808 ≤ x ∧ x ≤ 9223372036854775807) : am_smp X .lastore tg cv L (.inr (.inl x) :: .inl j :: .inr (.inr (some r)) :: rest) w = some (L, rest, (w.1, u2 w.2 r j.toNat x)) := by
  rw [s_lastw hw h, wl_id hx.1 (by omega)]
theorem s_pfw {q ci k pl z cj : Nat} {cv x : Int} {r : Nat} {fs : List (Option (Option Nat))} {rest : List AV} (hw : w.1[r]? = some (.inr (cj, fs))) (hc : Nat.beq ci cj = true) (hf : fs[k]? = some none) (hz : Nat.beq z 0 = true) : am_smp X (.putfield q) [ci, k, pl, z] cv L (.inl x :: .inr (.inr (some r)) :: rest) w = some (L, rest, (w.1, u2 w.2 r k (wr x))) := by
  have hz := Nat.eq_of_beq_eq_true hz
  subst hz
  simp only [am_smp, hw, hc, hf, cond_true]
  rfl
theorem s_pf {q ci k pl z cj : Nat} {cv x : Int} {r : Nat} {fs : List (Option (Option Nat))} {rest : List AV} (hw : w.1[r]? = some (.inr (cj, fs))) (hc : Nat.beq ci cj = true) (hf : fs[k]? = some none) (hz : Nat.beq z 0 = true) (hx : iR x) : am_smp X (.putfield q) [ci, k, pl, z] cv L (.inl x :: .inr (.inr (some r)) :: rest) w = some (L, rest, (w.1, u2 w.2 r k x)) := by
  rw [s_pfw hw hc hf hz, wr_R hx]
theorem s_pfz {q ci k pl z cj : Nat} {cv x : Int} {r : Nat} {fs : List (Option (Option Nat))} {rest : List AV} (hw : w.1[r]? = some (.inr (cj, fs))) (hc : Nat.beq ci cj = true) (hf : fs[k]? = some none) (hz : Nat.beq z 1 = true) (hx : x = 0 ∨ x = 1) : am_smp X (.putfield q) [ci, k, pl, z] cv L (.inl x :: .inr (.inr (some r)) :: rest) w = some (L, rest, (w.1, u2 w.2 r k x)) := by
  have hz := Nat.eq_of_beq_eq_true hz
  subst hz
  simp only [am_smp, hw, hc, hf, cond_true]
  rcases hx with rfl | rfl <;> rfl
theorem s_gfc {q ci k pl cj : Nat} {cv v : Int} {r : Nat} {fs : List (Option (Option Nat))} {rest : List AV} (hw : w.1[r]? = some (.inr (cj, fs))) (hc : Nat.beq ci cj = true) (hf : fs[k]? = some none) (he : w.2 r k = v) : am_smp X (.getfield q) [ci, k, pl] cv L (.inr (.inr (some r)) :: rest) w = some (L, .inl v :: rest, w) := by
  subst he
  simp only [am_smp, hw, hc, hf, cond_true]
theorem s_i2l {tg : List Nat} {cv a : Int} {rest : List AV} (h : iR a) : am_smp X .i2l tg cv L (.inl a :: rest) w = some (L, .inr (.inl a) :: rest, w) := by
  simp only [am_smp, wr_R h]
theorem s_idivc {tg : List Nat} {cv a b : Int} {rest : List AV} (ha : 0 ≤ a ∧ a ≤ 2147483647) (hb : 0 < b ∧ b ≤ 2147483647) : am_smp X .idiv tg cv L (.inl b :: .inl a :: rest) w = some (L, .inl (a / b) :: rest, w) := by
  have e1 : wr a = a := wr_R ⟨by omega, ha.2⟩
  have e2 : wr b = b := wr_R ⟨by omega, hb.2⟩
  simp only [am_smp, e1, e2, if_neg (show ¬ b = 0 by omega), Int.tdiv_eq_ediv_of_nonneg ha.1]
theorem s_iremc {tg : List Nat} {cv a b : Int} {rest : List AV} (ha : 0 ≤ a ∧ a ≤ 2147483647) (hb : 0 < b ∧ b ≤ 2147483647) : am_smp X .irem tg cv L (.inl b :: .inl a :: rest) w = some (L, .inl (a % b) :: rest, w) := by
  have e1 : wr a = a := wr_R ⟨by omega, ha.2⟩
  have e2 : wr b = b := wr_R ⟨by omega, hb.2⟩
  simp only [am_smp, e1, e2, if_neg (show ¬ b = 0 by omega), Int.tmod_eq_emod_of_nonneg ha.1]
theorem s_ldivc {tg : List Nat} {cv a b : Int} {rest : List AV} (ha : 0 ≤ a ∧ a ≤ 9223372036854775807) (hb : 0 < b ∧ b ≤ 9223372036854775807) : am_smp X .ldiv tg cv L (.inr (.inl b) :: .inr (.inl a) :: rest) w = some (L, .inr (.inl (a / b)) :: rest, w) := by
  have e1 : wl a = a := wl_id (by omega) (by omega)
  have e2 : wl b = b := wl_id (by omega) (by omega)
  simp only [am_smp, e1, e2, if_neg (show ¬ b = 0 by omega), Int.tdiv_eq_ediv_of_nonneg ha.1]
theorem s_lcg {tg : List Nat} {cv a b : Int} {rest : List AV} (ha : -9223372036854775808 ≤ a ∧ a ≤ 9223372036854775807) (hb : -9223372036854775808 ≤ b ∧ b ≤ 9223372036854775807) (h : b < a) : am_smp X .lcmp tg cv L (.inr (.inl b) :: .inr (.inl a) :: rest) w = some (L, .inl 1 :: rest, w) := by
  simp only [am_smp, wl_id ha.1 (by omega), wl_id hb.1 (by omega), if_pos h]
theorem s_lce {tg : List Nat} {cv a b : Int} {rest : List AV} (ha : -9223372036854775808 ≤ a ∧ a ≤ 9223372036854775807) (hb : -9223372036854775808 ≤ b ∧ b ≤ 9223372036854775807) (h : a = b) : am_smp X .lcmp tg cv L (.inr (.inl b) :: .inr (.inl a) :: rest) w = some (L, .inl 0 :: rest, w) := by
  simp only [am_smp, wl_id ha.1 (by omega), wl_id hb.1 (by omega), if_neg (show ¬ b < a by omega), if_pos h]
theorem s_lcl {tg : List Nat} {cv a b : Int} {rest : List AV} (ha : -9223372036854775808 ≤ a ∧ a ≤ 9223372036854775807) (hb : -9223372036854775808 ≤ b ∧ b ≤ 9223372036854775807) (h : a < b) : am_smp X .lcmp tg cv L (.inr (.inl b) :: .inr (.inl a) :: rest) w = some (L, .inl (-1) :: rest, w) := by
  simp only [am_smp, wl_id ha.1 (by omega), wl_id hb.1 (by omega), if_neg (show ¬ b < a by omega), if_neg (show ¬ a = b by omega)]
theorem s_idiv {tg : List Nat} {cv a b : Int} {rest : List AV} (h : wr b ≠ 0) : am_smp X .idiv tg cv L (.inl b :: .inl a :: rest) w = some (L, .inl ((wr a).tdiv (wr b)) :: rest, w) := by
  simp only [am_smp, if_neg h]
theorem s_irem {tg : List Nat} {cv a b : Int} {rest : List AV} (h : wr b ≠ 0) : am_smp X .irem tg cv L (.inl b :: .inl a :: rest) w = some (L, .inl ((wr a).tmod (wr b)) :: rest, w) := by
  simp only [am_smp, if_neg h]
theorem s_ldiv {tg : List Nat} {cv a b : Int} {rest : List AV} (h : wl b ≠ 0) : am_smp X .ldiv tg cv L (.inr (.inl b) :: .inr (.inl a) :: rest) w = some (L, .inr (.inl ((wl a).tdiv (wl b))) :: rest, w) := by
  simp only [am_smp, if_neg h]
theorem s_cpy {k : Nat} {tg : List Nat} {cv n dp sp : Int} {r0 r1 n0 n1 : Nat} {rest : List AV} (h0 : am_arw w r0 = some (0, n0)) (h1 : am_arw w r1 = some (0, n1)) (h : (0 ≤ sp ∧ 0 ≤ dp ∧ 0 ≤ n) ∧ sp + n ≤ n0 ∧ dp + n ≤ n1 ∧ (rest.map am_cat).sum ≤ 8) : am_smp X (.invokestatic k) tg cv L (.inl n :: .inl dp :: .inr (.inr (some r1)) :: .inl sp :: .inr (.inr (some r0)) :: rest) w = some (L, rest, (w.1, am_cp w.2 r0 r1 sp.toNat dp.toNat n.toNat)) := by
  simp only [am_smp, h0, h1, if_pos h]
theorem s_band {tg : List Nat} {cv a b v : Int} {rest : List AV} (h : am_and a b = v) : am_smp X .iand tg cv L (.inl b :: .inl a :: rest) w = some (L, .inl v :: rest, w) := by
  subst h; rfl
theorem s_bor {tg : List Nat} {cv a b v : Int} {rest : List AV} (h : am_or a b = v) : am_smp X .ior tg cv L (.inl b :: .inl a :: rest) w = some (L, .inl v :: rest, w) := by
  subst h; rfl
theorem s_bxor {tg : List Nat} {cv a b v : Int} {rest : List AV} (h : am_xor a b = v) : am_smp X .ixor tg cv L (.inl b :: .inl a :: rest) w = some (L, .inl v :: rest, w) := by
  subst h; rfl
theorem s_bshl {tg : List Nat} {cv a b v : Int} {rest : List AV} (h : am_shl a b = v) : am_smp X .ishl tg cv L (.inl b :: .inl a :: rest) w = some (L, .inl v :: rest, w) := by
  subst h; rfl
theorem s_bshr {tg : List Nat} {cv a b v : Int} {rest : List AV} (h : am_shr a b = v) : am_smp X .ishr tg cv L (.inl b :: .inl a :: rest) w = some (L, .inl v :: rest, w) := by
  subst h; rfl
theorem s_bushr {tg : List Nat} {cv a b v : Int} {rest : List AV} (h : am_ushr a b = v) : am_smp X .iushr tg cv L (.inl b :: .inl a :: rest) w = some (L, .inl v :: rest, w) := by
  subst h; rfl
theorem go_swo {dflt lo hi : Int} {offs : Array Int} {nx p1 : Nat} {tg : List Nat} {cv a : Int} {rest : List AV} (hf : am_at mi pc = some (.tableswitch dflt lo hi offs, nx, tg, cv)) (ht : tg.headD 0 = p1) (h : wr a < lo ∨ hi < wr a) (g : GO X d mi p1 L rest w Q) : GO X d mi pc L (.inl a :: rest) w Q := by
  obtain ⟨mt, h1, h2⟩ := am_at_ex hf
  obtain ⟨n, r, w1, h3, h4⟩ := g
  refine ⟨n + 1, r, w1, ?_, h4⟩
  unfold am_ex
  rw [h1]
  dsimp only
  rw [h2]
  dsimp only
  rw [if_pos h, ht]
  exact h3
theorem go_swi {v dflt lo hi : Int} {offs : Array Int} {nx p1 : Nat} {tg : List Nat} {cv a : Int} {rest : List AV} (hf : am_at mi pc = some (.tableswitch dflt lo hi offs, nx, tg, cv)) (hv : wr a = v) (h : ¬ (v < lo ∨ hi < v)) (ht : tg.getD ((v - lo).toNat + 1) 0 = p1) (g : GO X d mi p1 L rest w Q) : GO X d mi pc L (.inl a :: rest) w Q := by
  obtain ⟨mt, h1, h2⟩ := am_at_ex hf
  obtain ⟨n, r, w1, h3, h4⟩ := g
  refine ⟨n + 1, r, w1, ?_, h4⟩
  unfold am_ex
  rw [h1]
  dsimp only
  rw [h2]
  dsimp only
  rw [hv, if_neg h, ht]
  exact h3
end RULES
