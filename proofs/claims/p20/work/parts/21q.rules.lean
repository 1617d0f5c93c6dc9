/-! rules by heaps of code: a method's place in the program is looked up once -/
def am_PQ (mi : Nat) (q : am_Q) (a b c : Nat) : Prop := am_P mi = some (am_f2 q, a, b, c) ∧ am_k2 0 q = true
def am_nxt (X : am_X) (i : Instr) (nx : Nat) (tg : List Nat) (cv : Int) (L : am_L) (st : List AV) (w : am_W) : Option (Nat × am_L × List AV × am_W) := match i with
  | .goto _ => some (tg.headD 0, L, st, w)
  | .if_icmp c _ => match st with
    | .inl y :: .inl x :: r => some (bif am_cmp c (wr x) (wr y) then tg.headD 0 else nx, L, r, w)
    | _ => none
  | .ifCond c _ => match st with
    | .inl x :: r => some (bif am_cmp c (wr x) 0 then tg.headD 0 else nx, L, r, w)
    | _ => none
  | .invokestatic _ => none
  | .invokespecial k => bif Nat.blt (tg.headD 0) 9000 then none else match am_smp X (.invokespecial k) tg cv L st w with
    | some (L', st', w') => some (nx, L', st', w')
    | none => none
  | j => match am_smp X j tg cv L st w with
    | some (L', st', w') => some (nx, L', st', w')
    | none => none
def am_rq (q : am_Q) (X : am_X) : Nat → Nat → am_L → List AV → am_W → Option (Nat × am_L × List AV × am_W)
  | 0, pc, L, st, w => some (pc, L, st, w)
  | k + 1, pc, L, st, w => match am_fq q pc with
    | some (i, nx, tg, cv) => match am_nxt X i nx tg cv L st w with
      | some (p, L', st', w') => am_rq q X k p L' st' w'
      | none => none
    | none => none
def am_bq (q : am_Q) (X : am_X) (k pc : Nat) (L : am_L) (st : List AV) (w : am_W) : Option (Bool × Nat × Nat × am_L × List AV × am_W) := match am_rq q X k pc L st w with
  | none => none
  | some (p, L', st', w') => match am_fq q p with
    | none => none
    | some (i, nx, tg, _) => match i with
      | .if_icmp c _ => match st' with
        | .inl b :: .inl a :: r => some (am_cmp c (wr a) (wr b), tg.headD 0, nx, L', r, w')
        | _ => none
      | .ifCond c _ => match st' with
        | .inl a :: r => some (am_cmp c (wr a) 0, tg.headD 0, nx, L', r, w')
        | _ => none
      | _ => none
def am_tq (q : am_Q) (k0 : Nat) (X : am_X) (k pc : Nat) (L : am_L) (st : List AV) (w : am_W) : Option (Option AV × am_W) := match am_rq q X k pc L st w with
  | none => none
  | some (p, _, st', w') => match am_fq q p with
    | none => none
    | some (i, _, _, _) => match i with
      | .ireturn => match st' with
        | [.inl v] => bif am_rk k0 v then some (some (.inl v), w') else none
        | _ => none
      | .lreturn => match st' with
        | [.inr (.inl v)] => bif Nat.beq k0 3 then some (some (.inr (.inl v)), w') else none
        | _ => none
      | .return_ => match st' with
        | [] => bif Nat.beq k0 0 then some (none, w') else none
        | _ => none
      | _ => none
section RULQ
variable {q : am_Q} {X : am_X} {d mi pc a b c : Nat} {L : am_L} {st : List AV} {w : am_W} {Q : Option AV → am_W → Prop}
theorem am_PQ_fet (hq : am_PQ mi q a b c) {I : am_I} (hf : am_fq q pc = some I) : am_fet (am_f2 q) pc = some I := am_fq_at hq.2 hf
theorem am_PQ_at (hq : am_PQ mi q a b c) {I : am_I} (hf : am_fq q pc = some I) : am_at mi pc = some I := by
  unfold am_at
  rw [hq.1]
  exact am_fq_at hq.2 hf
theorem am_nxt_s {i : Instr} {nx pc1 : Nat} {tg : List Nat} {cv : Int} {L1 : am_L} {st1 : List AV} {w1 : am_W} (hp : am_pln i = true) (h : am_nxt X i nx tg cv L st w = some (pc1, L1, st1, w1)) : nx = pc1 ∧ am_smp X i tg cv L st w = some (L1, st1, w1) := by
  have key : am_nxt X i nx tg cv L st w = (match am_smp X i tg cv L st w with
    | some (L', st', w') => some (nx, L', st', w')
    | none => none) := by
    cases i <;> first | rfl | cases hp
  rw [key] at h
  split at h
  · rename_i L' st' w' hs
    cases h
    exact ⟨rfl, hs⟩
  · cases h
theorem am_nxt_n {i : Instr} {nx : Nat} {tg : List Nat} {cv : Int} {z : Nat × am_L × List AV × am_W} (hp : am_pln i = false) (hg : ∀ k, i = .goto k → False) (hs : ∀ k, i = .invokespecial k → False) (hi : ∀ c o, i = .if_icmp c o → False) (hz : ∀ c o, i = .ifCond c o → False) (h : am_nxt X i nx tg cv L st w = some z) : False := by
  cases i <;> first | (cases hp; done) | exact hg _ rfl | exact hs _ rfl | exact hi _ _ rfl | exact hz _ _ rfl | cases h
theorem go_gto {k : _} {nx pc1 : Nat} {tg : List Nat} {cv : Int} {L1 : am_L} {st1 : List AV} {w1 : am_W} (hat : am_at mi pc = some (.goto k, nx, tg, cv)) (h : am_nxt X (.goto k) nx tg cv L st w = some (pc1, L1, st1, w1)) (g : GO X d mi pc1 L1 st1 w1 Q) : GO X d mi pc L st w Q := by
  have e : some (tg.headD 0, L, st, w) = some (pc1, L1, st1, w1) := h
  cases e
  obtain ⟨mt, h1, h2⟩ := am_at_ex hat
  obtain ⟨n, r, w2, h3, h4⟩ := g
  refine ⟨n + 1, r, w2, ?_, h4⟩
  unfold am_ex
  rw [h1]
  dsimp only
  rw [h2]
  exact h3
theorem go_spq {k : _} {nx pc1 : Nat} {tg : List Nat} {cv : Int} {L1 : am_L} {st1 : List AV} {w1 : am_W} (hat : am_at mi pc = some (.invokespecial k, nx, tg, cv)) (h : am_nxt X (.invokespecial k) nx tg cv L st w = some (pc1, L1, st1, w1)) (g : GO X d mi pc1 L1 st1 w1 Q) : GO X d mi pc L st w Q := by
  have h' : (bif Nat.blt (tg.headD 0) 9000 then none else match am_smp X (.invokespecial k) tg cv L st w with
    | some (L', st', w') => some (nx, L', st', w')
    | none => none) = some (pc1, L1, st1, w1) := h
  by_cases e : Nat.blt (tg.headD 0) 9000 = true
  · rw [e] at h'
    cases h'
  · have e2 := eq_false_of_ne_true e
    rw [e2, cond_false] at h'
    split at h'
    · rename_i L' st' w' hs
      cases h'
      obtain ⟨mt, h1, h2⟩ := am_at_ex hat
      obtain ⟨n, r, w2, h3, h4⟩ := g
      refine ⟨n + 1, r, w2, ?_, h4⟩
      unfold am_ex
      rw [h1]
      dsimp only
      rw [h2]
      dsimp only
      rw [e2, hs]
      exact h3
    · cases h'
theorem go_icq {cc : _} {o : _} {nx : Nat} {tg : List Nat} {cv x y : Int} {r : List AV} {c' : Prop} (hat : am_at mi pc = some (.if_icmp cc o, nx, tg, cv)) (hc : (am_cmp cc (wr x) (wr y) = true) ↔ c') (gt : c' → GO X d mi (tg.headD 0) L r w Q) (gf : ¬ c' → GO X d mi nx L r w Q) : GO X d mi pc L (.inl y :: .inl x :: r) w Q := by
  obtain ⟨mt, h1, h2⟩ := am_at_ex hat
  by_cases z : am_cmp cc (wr x) (wr y) = true
  · obtain ⟨n, r1, w1, h3, h4⟩ := gt (hc.mp z)
    refine ⟨n + 1, r1, w1, ?_, h4⟩
    unfold am_ex
    rw [h1]
    dsimp only
    rw [h2]
    dsimp only
    rw [if_pos z]
    exact h3
  · obtain ⟨n, r1, w1, h3, h4⟩ := gf (fun y => z (hc.mpr y))
    refine ⟨n + 1, r1, w1, ?_, h4⟩
    unfold am_ex
    rw [h1]
    dsimp only
    rw [h2]
    dsimp only
    rw [if_neg z]
    exact h3
theorem go_zcq {cc : _} {o : _} {nx : Nat} {tg : List Nat} {cv x : Int} {r : List AV} {c' : Prop} (hat : am_at mi pc = some (.ifCond cc o, nx, tg, cv)) (hc : (am_cmp cc (wr x) 0 = true) ↔ c') (gt : c' → GO X d mi (tg.headD 0) L r w Q) (gf : ¬ c' → GO X d mi nx L r w Q) : GO X d mi pc L (.inl x :: r) w Q := by
  obtain ⟨mt, h1, h2⟩ := am_at_ex hat
  by_cases z : am_cmp cc (wr x) 0 = true
  · obtain ⟨n, r1, w1, h3, h4⟩ := gt (hc.mp z)
    refine ⟨n + 1, r1, w1, ?_, h4⟩
    unfold am_ex
    rw [h1]
    dsimp only
    rw [h2]
    dsimp only
    rw [if_pos z]
    exact h3
  · obtain ⟨n, r1, w1, h3, h4⟩ := gf (fun y => z (hc.mpr y))
    refine ⟨n + 1, r1, w1, ?_, h4⟩
    unfold am_ex
    rw [h1]
    dsimp only
    rw [h2]
    dsimp only
    rw [if_neg z]
    exact h3
theorem go_icn {cc : _} {o : _} {nx pc1 : Nat} {tg : List Nat} {cv : Int} {L1 : am_L} {st1 : List AV} {w1 : am_W} (hat : am_at mi pc = some (.if_icmp cc o, nx, tg, cv)) (h : am_nxt X (.if_icmp cc o) nx tg cv L st w = some (pc1, L1, st1, w1)) (g : GO X d mi pc1 L1 st1 w1 Q) : GO X d mi pc L st w Q := by
  have h' : (match (generalizing := false) st with
    | .inl y :: .inl x :: r => some (bif am_cmp cc (wr x) (wr y) then tg.headD 0 else nx, L, r, w)
    | _ => none) = some (pc1, L1, st1, w1) := h
  split at h'
  · rename_i y x r
    cases h'
    refine go_icq hat (c' := am_cmp cc (wr x) (wr y) = true) Iff.rfl (fun z => ?_) (fun z => ?_)
    · rw [z, cond_true] at g; exact g
    · rw [eq_false_of_ne_true z, cond_false] at g; exact g
  · cases h'
theorem go_zcn {cc : _} {o : _} {nx pc1 : Nat} {tg : List Nat} {cv : Int} {L1 : am_L} {st1 : List AV} {w1 : am_W} (hat : am_at mi pc = some (.ifCond cc o, nx, tg, cv)) (h : am_nxt X (.ifCond cc o) nx tg cv L st w = some (pc1, L1, st1, w1)) (g : GO X d mi pc1 L1 st1 w1 Q) : GO X d mi pc L st w Q := by
  have h' : (match (generalizing := false) st with
    | .inl x :: r => some (bif am_cmp cc (wr x) 0 then tg.headD 0 else nx, L, r, w)
    | _ => none) = some (pc1, L1, st1, w1) := h
  split at h'
  · rename_i x r
    cases h'
    refine go_zcq hat (c' := am_cmp cc (wr x) 0 = true) Iff.rfl (fun z => ?_) (fun z => ?_)
    · rw [z, cond_true] at g; exact g
    · rw [eq_false_of_ne_true z, cond_false] at g; exact g
  · cases h'
theorem go_nxt {i : Instr} {nx pc1 : Nat} {tg : List Nat} {cv : Int} {L1 : am_L} {st1 : List AV} {w1 : am_W} (hat : am_at mi pc = some (i, nx, tg, cv)) (h : am_nxt X i nx tg cv L st w = some (pc1, L1, st1, w1)) (g : GO X d mi pc1 L1 st1 w1 Q) : GO X d mi pc L st w Q := by
  by_cases hp : am_pln i = true
  · obtain ⟨e, hs⟩ := am_nxt_s hp h
    subst e
    exact go_smp hat hp hs g
  · have hp2 := eq_false_of_ne_true hp
    by_cases hg : ∃ k, i = .goto k
    · obtain ⟨k, rfl⟩ := hg
      exact go_gto hat h g
    · by_cases hs : ∃ k, i = .invokespecial k
      · obtain ⟨k, rfl⟩ := hs
        exact go_spq hat h g
      · by_cases hc : ∃ c o, i = .if_icmp c o
        · obtain ⟨cc, o, rfl⟩ := hc
          exact go_icn hat h g
        · by_cases hz : ∃ c o, i = .ifCond c o
          · obtain ⟨cc, o, rfl⟩ := hz
            exact go_zcn hat h g
          · exact (am_nxt_n hp2 (fun k e => hg ⟨k, e⟩) (fun k e => hs ⟨k, e⟩) (fun c o e => hc ⟨c, o, e⟩) (fun c o e => hz ⟨c, o, e⟩) h).elim
theorem go_rq (hq : am_PQ mi q a b c) : ∀ (k : Nat) {pc : Nat} {L : am_L} {st : List AV} {w : am_W} {pc' : Nat} {L' : am_L} {st' : List AV} {w' : am_W}, am_rq q X k pc L st w = some (pc', L', st', w') → GO X d mi pc' L' st' w' Q → GO X d mi pc L st w Q := by
  intro k
  induction k with
  | zero =>
    intro pc L st w pc' L' st' w' h g
    have e : some (pc, L, st, w) = some (pc', L', st', w') := h
    cases e
    exact g
  | succ k ih =>
    intro pc L st w pc' L' st' w' h g
    unfold am_rq at h
    split at h
    · rename_i i nx tg cv hf
      split at h
      · rename_i p1 L1 st1 w1 hs
        exact go_nxt (am_PQ_at hq hf) hs (ih h g)
      · cases h
    · cases h
theorem go_toq (hq : am_PQ mi q a b c) {k pc' : Nat} {L' : am_L} {st' : List AV} {w' : am_W} (h : am_rq q X k pc L st w = some (pc', L', st', w')) (g : GO X d mi pc' L' st' w' Q) : GO X d mi pc L st w Q := go_rq hq k h g
theorem go_ifq (hq : am_PQ mi q a b c) {k p1 p2 : Nat} {t : Bool} {c' : Prop} {L' : am_L} {st' : List AV} {w' : am_W} (h : am_bq q X k pc L st w = some (t, p1, p2, L', st', w')) (hc : (t = true) ↔ c') (gt : c' → GO X d mi p1 L' st' w' Q) (gf : ¬ c' → GO X d mi p2 L' st' w' Q) : GO X d mi pc L st w Q := by
  unfold am_bq at h
  split at h
  · cases h
  · rename_i p L1 st1 w1 hr
    split at h
    · cases h
    · rename_i i nx tg cv hf
      have hat := am_PQ_at hq hf
      refine go_rq hq k hr ?_
      cases i
      case if_icmp cc o =>
        dsimp only at h
        split at h
        · cases h
          exact go_icq hat hc gt gf
        · cases h
      case ifCond cc o =>
        dsimp only at h
        split at h
        · cases h
          exact go_zcq hat hc gt gf
        · cases h
      all_goals cases h
theorem go_retq (hq : am_PQ mi q a b c) {k : Nat} {r : Option AV} {w1 : am_W} (h : am_tq q c X k pc L st w = some (r, w1)) (g : Q r w1) : GO X d mi pc L st w Q := by
  unfold am_tq at h
  split at h
  · cases h
  · rename_i p L1 st1 w2 hr
    split at h
    · cases h
    · rename_i i nx tg cv hf
      have hf2 := am_PQ_fet hq hf
      refine go_rq hq k hr ?_
      cases i
      case ireturn =>
        dsimp only at h
        split at h
        · rename_i v
          by_cases e : am_rk c v = true
          · rw [e, cond_true] at h
            cases h
            refine ⟨0 + 1, _, _, ?_, g⟩
            unfold am_ex
            rw [hq.1]
            dsimp only
            rw [hf2]
            dsimp only
            rw [e]
            rfl
          · rw [eq_false_of_ne_true e, cond_false] at h
            cases h
        · cases h
      case lreturn =>
        dsimp only at h
        split at h
        · rename_i v
          by_cases e : Nat.beq c 3 = true
          · rw [e, cond_true] at h
            cases h
            refine ⟨0 + 1, _, _, ?_, g⟩
            unfold am_ex
            rw [hq.1]
            dsimp only
            rw [hf2]
            dsimp only
            rw [e]
            rfl
          · rw [eq_false_of_ne_true e, cond_false] at h
            cases h
        · cases h
      case return_ =>
        dsimp only at h
        split at h
        · by_cases e : Nat.beq c 0 = true
          · rw [e, cond_true] at h
            cases h
            refine ⟨0 + 1, _, _, ?_, g⟩
            unfold am_ex
            rw [hq.1]
            dsimp only
            rw [hf2]
            dsimp only
            rw [e]
            rfl
          · rw [eq_false_of_ne_true e, cond_false] at h
            cases h
        · cases h
      all_goals cases h
theorem go_smpq (hq : am_PQ mi q a b c) {i : Instr} {nx : Nat} {tg : List Nat} {cv : Int} {L' : am_L} {st' : List AV} {w' : am_W} (hf : am_fq q pc = some (i, nx, tg, cv)) (hi : am_pln i = true) (hs : am_smp X i tg cv L st w = some (L', st', w')) (g : GO X d mi nx L' st' w' Q) : GO X d mi pc L st w Q := go_smp (am_PQ_at hq hf) hi hs g
theorem go_cpyq (hq : am_PQ mi q a b c) {k : _} {nx : Nat} {tg : List Nat} {cv : Int} {L' : am_L} {st' : List AV} {w' : am_W} (hf : am_fq q pc = some (.invokestatic k, nx, tg, cv)) (hi : Nat.blt (tg.headD 0) 9000 = false) (hs : am_smp X (.invokestatic k) tg cv L st w = some (L', st', w')) (g : GO X d mi nx L' st' w' Q) : GO X d mi pc L st w Q := go_cpy (am_PQ_at hq hf) hi hs g
theorem go_retvq (hq : am_PQ mi q a b c) {nx : Nat} {tg : List Nat} {cv v : Int} (hf : am_fq q pc = some (.ireturn, nx, tg, cv)) (hk : am_rk c v = true) (g : Q (some (.inl v)) w) : GO X d mi pc L [.inl v] w Q := go_retv hq.1 (am_PQ_fet hq hf) hk g
theorem go_swoq (hq : am_PQ mi q a b c) {dflt lo hi : Int} {offs : Array Int} {nx p1 : Nat} {tg : List Nat} {cv x : Int} {rest : List AV} (hf : am_fq q pc = some (.tableswitch dflt lo hi offs, nx, tg, cv)) (ht : tg.headD 0 = p1) (h : wr x < lo ∨ hi < wr x) (g : GO X d mi p1 L rest w Q) : GO X d mi pc L (.inl x :: rest) w Q := go_swo (am_PQ_at hq hf) ht h g
theorem go_swiq (hq : am_PQ mi q a b c) {v dflt lo hi : Int} {offs : Array Int} {nx p1 : Nat} {tg : List Nat} {cv x : Int} {rest : List AV} (hf : am_fq q pc = some (.tableswitch dflt lo hi offs, nx, tg, cv)) (hv : wr x = v) (h : ¬ (v < lo ∨ hi < v)) (ht : tg.getD ((v - lo).toNat + 1) 0 = p1) (g : GO X d mi p1 L rest w Q) : GO X d mi pc L (.inl x :: rest) w Q := go_swi (am_PQ_at hq hf) hv h ht g
theorem go_callq (hq : am_PQ mi q a b c) {mj a2 b2 c2 : Nat} {q2 : am_Q} (hq2 : am_PQ mj q2 a2 b2 c2) {i : Instr} {nx pl : Nat} {tl : List Nat} {cv : Int} {virt : Bool} {Q' : Option AV → am_W → Prop} (hf : am_fq q pc = some (i, nx, mj :: pl :: tl, cv)) (hv : am_isv i = some virt) (h9 : Nat.blt mj 9000 = true)
    (hb : (Nat.ble a2 st.length && (Nat.ble ((st.drop a2).map am_cat).sum 8 && ((st.take a2).all (fun v => Nat.beq (am_cat v) 1) && (!virt || am_rcv w (tl.headD 99) st[a2 - 1]?)))) = true)
    (hs : GO X d mj 0 (am_ent (st.take a2).reverse b2) [] w Q') (g : ∀ r w', Q' r w' → w'.1 = w.1 ∧ GO X (d + 1) mi nx L (r.toList ++ st.drop a2) w' Q) : GO X (d + 1) mi pc L st w Q := go_call (am_PQ_at hq hf) hv h9 hq2.1 hb hs g
end RULQ
theorem PM0 : am_PQ 0 zqX0_init 1 1 0 := ⟨rfl, by decide +kernel⟩
theorem PM1 : am_PQ 1 zqX0_saidOf 3 4 1 := ⟨rfl, by decide +kernel⟩
theorem PM2 : am_PQ 2 zqX0_takeScene 4 4 0 := ⟨rfl, by decide +kernel⟩
theorem PM3 : am_PQ 3 zqX0_takeLaw 4 4 0 := ⟨rfl, by decide +kernel⟩
theorem PM4 : am_PQ 4 zqX0_copyFrom 2 2 0 := ⟨rfl, by decide +kernel⟩
theorem PM5 : am_PQ 5 zqX1_init 1 1 0 := ⟨rfl, by decide +kernel⟩
theorem PM6 : am_PQ 6 zqX1_hasRoom 2 2 2 := ⟨rfl, by decide +kernel⟩
theorem PM7 : am_PQ 7 zqX1_take 2 3 0 := ⟨rfl, by decide +kernel⟩
theorem PM8 : am_PQ 8 zqX1_shorten 2 2 2 := ⟨rfl, by decide +kernel⟩
theorem PM9 : am_PQ 9 zqX1_start 2 4 0 := ⟨rfl, by decide +kernel⟩
theorem PM10 : am_PQ 10 zqX1_byteAt 2 2 1 := ⟨rfl, by decide +kernel⟩
theorem PM11 : am_PQ 11 zqX1_isBlank 1 1 2 := ⟨rfl, by decide +kernel⟩
theorem PM12 : am_PQ 12 zqX1_isDigit 1 1 2 := ⟨rfl, by decide +kernel⟩
theorem PM13 : am_PQ 13 zqX1_isLetter 1 1 2 := ⟨rfl, by decide +kernel⟩
theorem PM14 : am_PQ 14 zqX1_runEnd 2 3 1 := ⟨rfl, by decide +kernel⟩
theorem PM15 : am_PQ 15 zqX1_addToken 4 4 0 := ⟨rfl, by decide +kernel⟩
theorem PM16 : am_PQ 16 zqX1_kindOf 4 6 1 := ⟨rfl, by decide +kernel⟩
theorem PM17 : am_PQ 17 zqX1_numberOf 3 5 1 := ⟨rfl, by decide +kernel⟩
theorem PM18 : am_PQ 18 zqX1_wordOf 4 7 1 := ⟨rfl, by decide +kernel⟩
theorem PM19 : am_PQ 19 zqX1_isSame 5 7 2 := ⟨rfl, by decide +kernel⟩
theorem PM20 : am_PQ 20 zqX1_token 1 1 1 := ⟨rfl, by decide +kernel⟩
theorem PM21 : am_PQ 21 zqX1_fail 2 2 0 := ⟨rfl, by decide +kernel⟩
theorem PM22 : am_PQ 22 zqX1_skip 2 2 0 := ⟨rfl, by decide +kernel⟩
theorem PM23 : am_PQ 23 zqX1_nextNumber 1 1 1 := ⟨rfl, by decide +kernel⟩
theorem PM24 : am_PQ 24 zqX1_oneOf 2 3 1 := ⟨rfl, by decide +kernel⟩
theorem PM25 : am_PQ 25 zqX1_readScene 1 4 1 := ⟨rfl, by decide +kernel⟩
theorem PM26 : am_PQ 26 zqX1_readAct 2 5 1 := ⟨rfl, by decide +kernel⟩
theorem PM27 : am_PQ 27 zqX1_readOther 2 2 1 := ⟨rfl, by decide +kernel⟩
theorem PM28 : am_PQ 28 zqX1_readLaw 1 3 1 := ⟨rfl, by decide +kernel⟩
theorem PM29 : am_PQ 29 zqX1_readLine 2 3 0 := ⟨rfl, by decide +kernel⟩
theorem PM30 : am_PQ 30 zqX1_emit 2 2 0 := ⟨rfl, by decide +kernel⟩
theorem PM31 : am_PQ 31 zqX1_condition 2 4 0 := ⟨rfl, by decide +kernel⟩
theorem PM32 : am_PQ 32 zqX1_single 2 4 0 := ⟨rfl, by decide +kernel⟩
theorem PM33 : am_PQ 33 zqX1_sum 1 4 0 := ⟨rfl, by decide +kernel⟩
theorem PM34 : am_PQ 34 zqX1_part 1 2 0 := ⟨rfl, by decide +kernel⟩
theorem PM35 : am_PQ 35 zqX1_unit 1 3 0 := ⟨rfl, by decide +kernel⟩
theorem PM36 : am_PQ 36 zqX2_init 3 3 0 := ⟨rfl, by decide +kernel⟩
theorem PM37 : am_PQ 37 zqX2_has 2 2 2 := ⟨rfl, by decide +kernel⟩
theorem PM38 : am_PQ 38 zqX2_isFull 1 1 2 := ⟨rfl, by decide +kernel⟩
theorem PM39 : am_PQ 39 zqX2_at 3 3 1 := ⟨rfl, by decide +kernel⟩
theorem PM40 : am_PQ 40 zqX2_add 7 7 1 := ⟨rfl, by decide +kernel⟩
theorem PM41 : am_PQ 41 zqX2_set 3 3 0 := ⟨rfl, by decide +kernel⟩
theorem PM42 : am_PQ 42 zqX2_copyFrom 2 2 0 := ⟨rfl, by decide +kernel⟩
theorem PM43 : am_PQ 43 zqX3_init 1 1 0 := ⟨rfl, by decide +kernel⟩
theorem PM44 : am_PQ 44 zqX3_give 3 3 0 := ⟨rfl, by decide +kernel⟩
theorem PM45 : am_PQ 45 zqX3_weigh 3 4 0 := ⟨rfl, by decide +kernel⟩
theorem PM46 : am_PQ 46 zqX3_ruleOf 2 4 1 := ⟨rfl, by decide +kernel⟩
theorem PM47 : am_PQ 47 zqX3_amountOf 5 10 1 := ⟨rfl, by decide +kernel⟩
theorem PM48 : am_PQ 48 zqX3_run 5 9 1 := ⟨rfl, by decide +kernel⟩
theorem PM49 : am_PQ 49 zqX3_worked 3 3 1 := ⟨rfl, by decide +kernel⟩
theorem PM50 : am_PQ 50 zqX4_init 1 1 0 := ⟨rfl, by decide +kernel⟩
theorem PM51 : am_PQ 51 zqX4_begin 1 1 0 := ⟨rfl, by decide +kernel⟩
theorem PM52 : am_PQ 52 zqX4_copyFrom 2 2 0 := ⟨rfl, by decide +kernel⟩
theorem PM53 : am_PQ 53 zqX4_act 2 6 0 := ⟨rfl, by decide +kernel⟩
theorem PM54 : am_PQ 54 zqX4_canSee 2 2 2 := ⟨rfl, by decide +kernel⟩
theorem PM55 : am_PQ 55 zqX4_seemsToSee 3 4 2 := ⟨rfl, by decide +kernel⟩
theorem PM56 : am_PQ 56 zqX4_wear 3 3 0 := ⟨rfl, by decide +kernel⟩
theorem PM57 : am_PQ 57 zqX4_snap 2 3 0 := ⟨rfl, by decide +kernel⟩
theorem PM58 : am_PQ 58 zqX4_bring 5 7 0 := ⟨rfl, by decide +kernel⟩
theorem PM59 : am_PQ 59 zqX4_see 5 7 0 := ⟨rfl, by decide +kernel⟩
theorem PM60 : am_PQ 60 zqX4_inform 5 6 0 := ⟨rfl, by decide +kernel⟩
theorem PM61 : am_PQ 61 zqX4_lift 3 6 0 := ⟨rfl, by decide +kernel⟩
theorem PM62 : am_PQ 62 zqX4_watchLift 5 6 0 := ⟨rfl, by decide +kernel⟩
theorem PM63 : am_PQ 63 zqX4_allMoves 1 1 1 := ⟨rfl, by decide +kernel⟩
theorem PM64 : am_PQ 64 zqX4_ofLook 5 7 1 := ⟨rfl, by decide +kernel⟩
theorem PM65 : am_PQ 65 zqX4_ofPicture 4 4 1 := ⟨rfl, by decide +kernel⟩
theorem PM66 : am_PQ 66 zqX5_init 1 1 0 := ⟨rfl, by decide +kernel⟩
theorem PM67 : am_PQ 67 zqX5_state 2 3 1 := ⟨rfl, by decide +kernel⟩
theorem PM68 : am_PQ 68 zqX5_feed 6 6 1 := ⟨rfl, by decide +kernel⟩
theorem PM69 : am_PQ 69 zqX5_end 2 2 2 := ⟨rfl, by decide +kernel⟩
theorem PM70 : am_PQ 70 zqX5_text 3 6 1 := ⟨rfl, by decide +kernel⟩
theorem PM71 : am_PQ 71 zqX5_fault 2 2 1 := ⟨rfl, by decide +kernel⟩
theorem PM72 : am_PQ 72 zqX5_after 5 6 1 := ⟨rfl, by decide +kernel⟩
theorem PM73 : am_PQ 73 zqX5_thinks 5 5 1 := ⟨rfl, by decide +kernel⟩
theorem PM74 : am_PQ 74 zqX5_here 4 4 1 := ⟨rfl, by decide +kernel⟩
theorem PM75 : am_PQ 75 zqX5_question 6 9 1 := ⟨rfl, by decide +kernel⟩
theorem PM76 : am_PQ 76 zqX5_says 3 3 1 := ⟨rfl, by decide +kernel⟩
theorem PM77 : am_PQ 77 zqX5_child 5 5 1 := ⟨rfl, by decide +kernel⟩
theorem PM78 : am_PQ 78 zqX5_weight 5 5 1 := ⟨rfl, by decide +kernel⟩
theorem PM79 : am_PQ 79 zqX5_ask 4 7 1 := ⟨rfl, by decide +kernel⟩
theorem PM80 : am_PQ 80 zqX5_told 5 5 1 := ⟨rfl, by decide +kernel⟩
theorem PM81 : am_PQ 81 zqX5_answer 3 3 1 := ⟨rfl, by decide +kernel⟩
theorem PM82 : am_PQ 82 zqX5_chance 6 6 1 := ⟨rfl, by decide +kernel⟩
theorem PM83 : am_PQ 83 zqX5_parted 3 3 1 := ⟨rfl, by decide +kernel⟩
theorem PM84 : am_PQ 84 zqX5_fewest 2 6 1 := ⟨rfl, by decide +kernel⟩
theorem PM85 : am_PQ 85 zqX5_make 4 6 1 := ⟨rfl, by decide +kernel⟩
theorem PM86 : am_PQ 86 zqX5_odds 3 3 1 := ⟨rfl, by decide +kernel⟩
theorem PM87 : am_PQ 87 zqX5_need 3 4 1 := ⟨rfl, by decide +kernel⟩
theorem PM88 : am_PQ 88 zqX5_pulls 3 8 1 := ⟨rfl, by decide +kernel⟩
theorem PM89 : am_PQ 89 zqX5_beside 2 6 1 := ⟨rfl, by decide +kernel⟩
theorem PM90 : am_PQ 90 zqX5_eyes 3 3 1 := ⟨rfl, by decide +kernel⟩
theorem PM91 : am_PQ 91 zqX5_way 2 4 1 := ⟨rfl, by decide +kernel⟩
theorem PM92 : am_PQ 92 zqX5_house 3 3 1 := ⟨rfl, by decide +kernel⟩
theorem PM93 : am_PQ 93 zqX5_houses 2 2 1 := ⟨rfl, by decide +kernel⟩
theorem PM94 : am_PQ 94 zqX5_sorts 3 6 1 := ⟨rfl, by decide +kernel⟩
theorem PM95 : am_PQ 95 zqX5_curve 3 3 1 := ⟨rfl, by decide +kernel⟩
theorem PM96 : am_PQ 96 zqX5_score 2 6 1 := ⟨rfl, by decide +kernel⟩
theorem PM97 : am_PQ 97 zqX5_next 6 10 1 := ⟨rfl, by decide +kernel⟩
theorem PM98 : am_PQ 98 zqX5_image 2 2 2 := ⟨rfl, by decide +kernel⟩
theorem PM99 : am_PQ 99 zqX5_look 2 2 1 := ⟨rfl, by decide +kernel⟩
theorem PM100 : am_PQ 100 zqX5_within 3 3 2 := ⟨rfl, by decide +kernel⟩
theorem PM101 : am_PQ 101 zqX5_cut 2 2 1 := ⟨rfl, by decide +kernel⟩
theorem PM102 : am_PQ 102 zqX5_isScene 1 1 2 := ⟨rfl, by decide +kernel⟩
theorem PM103 : am_PQ 103 zqX5_isLaw 1 1 2 := ⟨rfl, by decide +kernel⟩
theorem PM104 : am_PQ 104 zqX5_isThing 1 1 2 := ⟨rfl, by decide +kernel⟩
theorem PM105 : am_PQ 105 zqX5_isWho 1 1 2 := ⟨rfl, by decide +kernel⟩
theorem PM106 : am_PQ 106 zqX5_isRule 1 1 2 := ⟨rfl, by decide +kernel⟩
theorem PM107 : am_PQ 107 zqX5_isAnswer 1 1 2 := ⟨rfl, by decide +kernel⟩
theorem PM108 : am_PQ 108 zqX5_canAsk 4 4 2 := ⟨rfl, by decide +kernel⟩
theorem PM109 : am_PQ 109 zqX5_lawOf 2 2 1 := ⟨rfl, by decide +kernel⟩
theorem PM110 : am_PQ 110 zqX5_draw 2 2 1 := ⟨rfl, by decide +kernel⟩
theorem PM111 : am_PQ 111 zqX5_root 1 2 1 := ⟨rfl, by decide +kernel⟩
theorem PM112 : am_PQ 112 zqX5_thousandByRoot 1 2 1 := ⟨rfl, by decide +kernel⟩
theorem PM113 : am_PQ 113 zqX5_play 2 3 0 := ⟨rfl, by decide +kernel⟩
theorem PM114 : am_PQ 114 zqX5_settle 2 3 0 := ⟨rfl, by decide +kernel⟩
theorem PM115 : am_PQ 115 zqX5_settleAll 2 3 0 := ⟨rfl, by decide +kernel⟩
theorem PM116 : am_PQ 116 zqX5_ruleIn 4 6 1 := ⟨rfl, by decide +kernel⟩
theorem PM117 : am_PQ 117 zqX5_isTelling 3 3 2 := ⟨rfl, by decide +kernel⟩
theorem PM118 : am_PQ 118 zqX5_weigh 5 5 0 := ⟨rfl, by decide +kernel⟩
theorem PM119 : am_PQ 119 zqX5_weighedChance 3 7 1 := ⟨rfl, by decide +kernel⟩
theorem PM120 : am_PQ 120 zqX5_partedBy 3 5 1 := ⟨rfl, by decide +kernel⟩
theorem PM121 : am_PQ 121 zqX5_listCouples 2 6 1 := ⟨rfl, by decide +kernel⟩
theorem PM122 : am_PQ 122 zqX5_partsAll 3 4 2 := ⟨rfl, by decide +kernel⟩
theorem PM123 : am_PQ 123 zqX5_actParts 5 5 2 := ⟨rfl, by decide +kernel⟩
theorem PM124 : am_PQ 124 zqX5_firstMove 4 9 1 := ⟨rfl, by decide +kernel⟩
theorem PM125 : am_PQ 125 zqX5_agree 3 4 0 := ⟨rfl, by decide +kernel⟩
theorem PM126 : am_PQ 126 zqX5_countAgreed 2 4 0 := ⟨rfl, by decide +kernel⟩
theorem PM127 : am_PQ 127 zqX5_oddsOf 2 5 1 := ⟨rfl, by decide +kernel⟩
theorem PM128 : am_PQ 128 zqX5_powerOfNine 1 4 3 := ⟨rfl, by decide +kernel⟩
theorem PM129 : am_PQ 129 zqX5_mostAgreed 1 3 1 := ⟨rfl, by decide +kernel⟩
theorem PM130 : am_PQ 130 zqX5_itsRule 2 2 1 := ⟨rfl, by decide +kernel⟩
theorem PM131 : am_PQ 131 zqX5_lastRight 3 5 1 := ⟨rfl, by decide +kernel⟩
theorem PM132 : am_PQ 132 zqX5_isRight 2 2 2 := ⟨rfl, by decide +kernel⟩
theorem PM133 : am_PQ 133 zqX5_isLong 2 12 2 := ⟨rfl, by decide +kernel⟩
theorem PM134 : am_PQ 134 zqX5_isRare 2 7 2 := ⟨rfl, by decide +kernel⟩
theorem PM135 : am_PQ 135 zqX5_shareOf 2 3 1 := ⟨rfl, by decide +kernel⟩
theorem PM136 : am_PQ 136 zqX5_joined 1 4 1 := ⟨rfl, by decide +kernel⟩
theorem PM137 : am_PQ 137 zqX5_farApart 1 7 1 := ⟨rfl, by decide +kernel⟩
theorem PM138 : am_PQ 138 zqX5_offHouses 1 5 1 := ⟨rfl, by decide +kernel⟩
theorem PM139 : am_PQ 139 zqX5_haveHouses 1 3 1 := ⟨rfl, by decide +kernel⟩
theorem PM140 : am_PQ 140 zqX5_countStep 2 4 0 := ⟨rfl, by decide +kernel⟩
theorem PM141 : am_PQ 141 zqX5_turn 1 3 1 := ⟨rfl, by decide +kernel⟩
theorem PM142 : am_PQ 142 zqX5_scoreOf 2 5 1 := ⟨rfl, by decide +kernel⟩
theorem PM143 : am_PQ 143 zqX5_level 1 3 1 := ⟨rfl, by decide +kernel⟩
theorem PM144 : am_PQ 144 zqX5_farApartBy 6 8 1 := ⟨rfl, by decide +kernel⟩
theorem PM145 : am_PQ 145 zqX6_init 1 1 0 := ⟨rfl, by decide +kernel⟩
theorem PM146 : am_PQ 146 zqX6_isIn 3 3 2 := ⟨rfl, by decide +kernel⟩
theorem PM147 : am_PQ 147 zqX6_apart 2 2 1 := ⟨rfl, by decide +kernel⟩
theorem PM148 : am_PQ 148 zqX6_root 1 2 1 := ⟨rfl, by decide +kernel⟩
theorem PM149 : am_PQ 149 zqX6_state 2 3 1 := ⟨rfl, by decide +kernel⟩
theorem PM150 : am_PQ 150 zqX6_draw 2 2 1 := ⟨rfl, by decide +kernel⟩
theorem PM151 : am_PQ 151 zqX6_feed 6 8 1 := ⟨rfl, by decide +kernel⟩
theorem PM152 : am_PQ 152 zqX6_end 2 2 2 := ⟨rfl, by decide +kernel⟩
theorem PM153 : am_PQ 153 zqX6_see 2 2 1 := ⟨rfl, by decide +kernel⟩
theorem PM154 : am_PQ 154 zqX6_isLetter 1 1 2 := ⟨rfl, by decide +kernel⟩
theorem PM155 : am_PQ 155 zqX6_isDigit 1 1 2 := ⟨rfl, by decide +kernel⟩
theorem PM156 : am_PQ 156 zqX6_is 2 4 2 := ⟨rfl, by decide +kernel⟩
theorem PM157 : am_PQ 157 zqX6_actWord 1 1 1 := ⟨rfl, by decide +kernel⟩
theorem PM158 : am_PQ 158 zqX6_lawWord 1 1 1 := ⟨rfl, by decide +kernel⟩
theorem PM159 : am_PQ 159 zqX6_next0 1 3 0 := ⟨rfl, by decide +kernel⟩
theorem PM160 : am_PQ 160 zqX6_bad 2 2 2 := ⟨rfl, by decide +kernel⟩
theorem PM161 : am_PQ 161 zqX6_need0 2 2 2 := ⟨rfl, by decide +kernel⟩
theorem PM162 : am_PQ 162 zqX6_number 3 3 2 := ⟨rfl, by decide +kernel⟩
theorem PM163 : am_PQ 163 zqX6_lay 3 3 0 := ⟨rfl, by decide +kernel⟩
theorem PM164 : am_PQ 164 zqX6_opens 1 1 2 := ⟨rfl, by decide +kernel⟩
theorem PM165 : am_PQ 165 zqX6_sumUp 1 2 2 := ⟨rfl, by decide +kernel⟩
theorem PM166 : am_PQ 166 zqX6_product 1 3 2 := ⟨rfl, by decide +kernel⟩
theorem PM167 : am_PQ 167 zqX6_unit 1 2 2 := ⟨rfl, by decide +kernel⟩
theorem PM168 : am_PQ 168 zqX6_any 1 1 2 := ⟨rfl, by decide +kernel⟩
theorem PM169 : am_PQ 169 zqX6_every 1 1 2 := ⟨rfl, by decide +kernel⟩
theorem PM170 : am_PQ 170 zqX6_one 1 2 2 := ⟨rfl, by decide +kernel⟩
theorem PM171 : am_PQ 171 zqX6_argument 3 3 2 := ⟨rfl, by decide +kernel⟩
theorem PM172 : am_PQ 172 zqX6_anAct 1 2 2 := ⟨rfl, by decide +kernel⟩
theorem PM173 : am_PQ 173 zqX6_aLine 1 2 2 := ⟨rfl, by decide +kernel⟩
theorem PM174 : am_PQ 174 zqX6_text 3 4 1 := ⟨rfl, by decide +kernel⟩
theorem PM175 : am_PQ 175 zqX6_keeps 2 3 0 := ⟨rfl, by decide +kernel⟩
theorem PM176 : am_PQ 176 zqX6_fault 2 2 1 := ⟨rfl, by decide +kernel⟩
theorem PM177 : am_PQ 177 zqX6_begins 1 2 0 := ⟨rfl, by decide +kernel⟩
theorem PM178 : am_PQ 178 zqX6_canSee 2 2 2 := ⟨rfl, by decide +kernel⟩
theorem PM179 : am_PQ 179 zqX6_takesForSeeing 3 3 2 := ⟨rfl, by decide +kernel⟩
theorem PM180 : am_PQ 180 zqX6_moves 5 8 0 := ⟨rfl, by decide +kernel⟩
theorem PM181 : am_PQ 181 zqX6_tells 5 6 0 := ⟨rfl, by decide +kernel⟩
theorem PM182 : am_PQ 182 zqX6_lifts 3 6 0 := ⟨rfl, by decide +kernel⟩
theorem PM183 : am_PQ 183 zqX6_acts 6 7 0 := ⟨rfl, by decide +kernel⟩
theorem PM184 : am_PQ 184 zqX6_goes 2 4 0 := ⟨rfl, by decide +kernel⟩
theorem PM185 : am_PQ 185 zqX6_isScene 1 1 2 := ⟨rfl, by decide +kernel⟩
theorem PM186 : am_PQ 186 zqX6_isWho 1 1 2 := ⟨rfl, by decide +kernel⟩
theorem PM187 : am_PQ 187 zqX6_isThing 1 1 2 := ⟨rfl, by decide +kernel⟩
theorem PM188 : am_PQ 188 zqX6_after 5 5 1 := ⟨rfl, by decide +kernel⟩
theorem PM189 : am_PQ 189 zqX6_thinks 5 5 1 := ⟨rfl, by decide +kernel⟩
theorem PM190 : am_PQ 190 zqX6_here 4 5 1 := ⟨rfl, by decide +kernel⟩
theorem PM191 : am_PQ 191 zqX6_asked 3 3 1 := ⟨rfl, by decide +kernel⟩
theorem PM192 : am_PQ 192 zqX6_isQuestion 2 2 2 := ⟨rfl, by decide +kernel⟩
theorem PM193 : am_PQ 193 zqX6_question 6 7 1 := ⟨rfl, by decide +kernel⟩
theorem PM194 : am_PQ 194 zqX6_saysNow 3 6 1 := ⟨rfl, by decide +kernel⟩
theorem PM195 : am_PQ 195 zqX6_saysOf 3 3 1 := ⟨rfl, by decide +kernel⟩
theorem PM196 : am_PQ 196 zqX6_tellsSome 2 2 2 := ⟨rfl, by decide +kernel⟩
theorem PM197 : am_PQ 197 zqX6_says 3 3 1 := ⟨rfl, by decide +kernel⟩
theorem PM198 : am_PQ 198 zqX6_ofChild 3 3 1 := ⟨rfl, by decide +kernel⟩
theorem PM199 : am_PQ 199 zqX6_isChild 2 2 2 := ⟨rfl, by decide +kernel⟩
theorem PM200 : am_PQ 200 zqX6_isLaw 1 1 2 := ⟨rfl, by decide +kernel⟩
theorem PM201 : am_PQ 201 zqX6_isHow 1 1 2 := ⟨rfl, by decide +kernel⟩
theorem PM202 : am_PQ 202 zqX6_child 5 6 1 := ⟨rfl, by decide +kernel⟩
theorem PM203 : am_PQ 203 zqX6_both 3 3 1 := ⟨rfl, by decide +kernel⟩
theorem PM204 : am_PQ 204 zqX6_comesTo 4 8 1 := ⟨rfl, by decide +kernel⟩
theorem PM205 : am_PQ 205 zqX6_gathers 4 4 0 := ⟨rfl, by decide +kernel⟩
theorem PM206 : am_PQ 206 zqX6_weighs 3 7 1 := ⟨rfl, by decide +kernel⟩
theorem PM207 : am_PQ 207 zqX6_weight 5 5 1 := ⟨rfl, by decide +kernel⟩
theorem PM208 : am_PQ 208 zqX6_allWeights 2 4 1 := ⟨rfl, by decide +kernel⟩
theorem PM209 : am_PQ 209 zqX6_ofAnswer 3 3 1 := ⟨rfl, by decide +kernel⟩
theorem PM210 : am_PQ 210 zqX6_answers 7 8 0 := ⟨rfl, by decide +kernel⟩
theorem PM211 : am_PQ 211 zqX6_ask 4 9 1 := ⟨rfl, by decide +kernel⟩
theorem PM212 : am_PQ 212 zqX6_isAnswer 1 1 2 := ⟨rfl, by decide +kernel⟩
theorem PM213 : am_PQ 213 zqX6_told 5 5 1 := ⟨rfl, by decide +kernel⟩
theorem PM214 : am_PQ 214 zqX6_answer 3 3 1 := ⟨rfl, by decide +kernel⟩
theorem PM215 : am_PQ 215 zqX6_chanceOf 6 10 1 := ⟨rfl, by decide +kernel⟩
theorem PM216 : am_PQ 216 zqX6_chance 6 6 1 := ⟨rfl, by decide +kernel⟩
theorem PM217 : am_PQ 217 zqX6_isRule 1 1 2 := ⟨rfl, by decide +kernel⟩
theorem PM218 : am_PQ 218 zqX6_partedBy 3 5 1 := ⟨rfl, by decide +kernel⟩
theorem PM219 : am_PQ 219 zqX6_parted 3 3 1 := ⟨rfl, by decide +kernel⟩
theorem PM220 : am_PQ 220 zqX6_count 1 3 1 := ⟨rfl, by decide +kernel⟩
theorem PM221 : am_PQ 221 zqX6_fewest 2 7 1 := ⟨rfl, by decide +kernel⟩
theorem PM222 : am_PQ 222 zqX6_unlikeBehind 8 8 2 := ⟨rfl, by decide +kernel⟩
theorem PM223 : am_PQ 223 zqX6_make 4 5 1 := ⟨rfl, by decide +kernel⟩
theorem PM224 : am_PQ 224 zqX6_multiplies 2 5 0 := ⟨rfl, by decide +kernel⟩
theorem PM225 : am_PQ 225 zqX6_oddsNow 2 5 1 := ⟨rfl, by decide +kernel⟩
theorem PM226 : am_PQ 226 zqX6_itsRule 2 4 1 := ⟨rfl, by decide +kernel⟩
theorem PM227 : am_PQ 227 zqX6_odds 3 3 1 := ⟨rfl, by decide +kernel⟩
theorem PM228 : am_PQ 228 zqX6_need 3 6 1 := ⟨rfl, by decide +kernel⟩
theorem PM229 : am_PQ 229 zqX6_isTelling 2 2 2 := ⟨rfl, by decide +kernel⟩
theorem PM230 : am_PQ 230 zqX6_pulls 3 8 1 := ⟨rfl, by decide +kernel⟩
theorem PM231 : am_PQ 231 zqX6_passes 3 6 1 := ⟨rfl, by decide +kernel⟩
theorem PM232 : am_PQ 232 zqX6_beside 2 5 1 := ⟨rfl, by decide +kernel⟩
theorem PM233 : am_PQ 233 zqX6_eyes 3 3 1 := ⟨rfl, by decide +kernel⟩
theorem PM234 : am_PQ 234 zqX6_isRare 3 6 2 := ⟨rfl, by decide +kernel⟩
theorem PM235 : am_PQ 235 zqX6_isLong 2 11 2 := ⟨rfl, by decide +kernel⟩
theorem PM236 : am_PQ 236 zqX6_way 2 4 1 := ⟨rfl, by decide +kernel⟩
theorem PM237 : am_PQ 237 zqX6_house 3 3 1 := ⟨rfl, by decide +kernel⟩
theorem PM238 : am_PQ 238 zqX6_share 2 2 1 := ⟨rfl, by decide +kernel⟩
theorem PM239 : am_PQ 239 zqX6_houses 2 12 1 := ⟨rfl, by decide +kernel⟩
theorem PM240 : am_PQ 240 zqX6_sorts 3 5 1 := ⟨rfl, by decide +kernel⟩
theorem PM241 : am_PQ 241 zqX6_curves 2 3 0 := ⟨rfl, by decide +kernel⟩
theorem PM242 : am_PQ 242 zqX6_curve 3 5 1 := ⟨rfl, by decide +kernel⟩
theorem PM243 : am_PQ 243 zqX6_level 1 2 1 := ⟨rfl, by decide +kernel⟩
theorem PM244 : am_PQ 244 zqX6_scoreOf 2 4 1 := ⟨rfl, by decide +kernel⟩
theorem PM245 : am_PQ 245 zqX6_score 2 6 1 := ⟨rfl, by decide +kernel⟩
theorem PM246 : am_PQ 246 zqX6_next 6 11 1 := ⟨rfl, by decide +kernel⟩
theorem PM247 : am_PQ 247 zqX6_image 2 3 2 := ⟨rfl, by decide +kernel⟩
theorem PM248 : am_PQ 248 zqX6_look 2 2 1 := ⟨rfl, by decide +kernel⟩
theorem PM249 : am_PQ 249 zqJ0_length_8abf5 1 1 1 := ⟨rfl, by decide +kernel⟩
theorem PM250 : am_PQ 250 zqJ0_charAt_5068e 2 2 4 := ⟨rfl, by decide +kernel⟩
theorem PM251 : am_PQ 251 zqJ0_indexOf_0f7a4 2 2 1 := ⟨rfl, by decide +kernel⟩
theorem PM252 : am_PQ 252 zqJ0_indexOf_7cf53 3 3 1 := ⟨rfl, by decide +kernel⟩
theorem PM253 : am_PQ 253 zqJ0_coder_7d493 1 1 5 := ⟨rfl, by decide +kernel⟩
theorem PM254 : am_PQ 254 zqJ0_isLatin1_aae02 1 1 2 := ⟨rfl, by decide +kernel⟩
theorem PM255 : am_PQ 255 zqJ0_checkIndex_df160 2 2 0 := ⟨rfl, by decide +kernel⟩
theorem PM256 : am_PQ 256 zqJ1_charAt_3b067 2 2 4 := ⟨rfl, by decide +kernel⟩
theorem PM257 : am_PQ 257 zqJ1_canEncode_9a6ad 1 1 2 := ⟨rfl, by decide +kernel⟩
theorem PM258 : am_PQ 258 zqJ1_indexOf_4cfef 4 4 1 := ⟨rfl, by decide +kernel⟩
theorem PM259 : am_PQ 259 zqJ1_indexOfChar_4cfef 4 6 1 := ⟨rfl, by decide +kernel⟩
theorem PM260 : am_PQ 260 zqJ3_checkIndex_8e157 3 3 1 := ⟨rfl, by decide +kernel⟩
theorem PM261 : am_PQ 261 zqJ7_fill_53178 2 4 0 := ⟨rfl, by decide +kernel⟩
theorem PM262 : am_PQ 262 zqJ6_bitCount_0f7a4 1 1 1 := ⟨rfl, by decide +kernel⟩
theorem PM263 : am_PQ 263 zqJ9_floorMod_7cf53 2 3 1 := ⟨rfl, by decide +kernel⟩
theorem PM264 : am_PQ 264 zqJ9_abs_0f7a4 1 1 1 := ⟨rfl, by decide +kernel⟩
theorem PM265 : am_PQ 265 zqJ9_max_7cf53 2 2 1 := ⟨rfl, by decide +kernel⟩
theorem PM266 : am_PQ 266 zqJ9_min_7cf53 2 2 1 := ⟨rfl, by decide +kernel⟩
theorem PM267 : am_PQ 267 zqL_law 1 4 2 := ⟨rfl, by decide +kernel⟩
