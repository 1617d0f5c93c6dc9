/-! what a law's steps come to -/
def bo (s a b : Int) : Int := if s = 7 then a + b else if s = 8 then a - b else if s = 9 then a * b else if s = 11 then (if a < b then 1 else 0) else if s = 12 then (if a = b then 1 else 0) else if s = 13 then (if b < a then 1 else 0) else if s = 15 then am_and a b else am_or a b
def evs (fa : Nat → Int) (s v : Int) (k : List Int) : List Int :=
  if 0 ≤ s ∧ s ≤ 6 then (if s = 0 then v else fa s.toNat) :: k
  else if s = 10 then (match k with
    | a :: r => wr ((wr a).tdiv (wr v)) :: r
    | [] => [])
  else if s = 14 then (match k with
    | a :: r => wr (1 - a) :: r
    | [] => [])
  else (match k with
    | b :: a :: r => wr (bo s a b) :: r
    | _ => [])
def ev (g fa : Nat → Int) : Nat → Nat → List Int → List Int
  | 0, _, k => k
  | n + 1, i, k => ev g fa n (i + 1) (evs fa (g (2 * i)) (g (2 * i + 1)) k)
theorem ev_s {g fa : Nat → Int} {n i : Nat} {k : List Int} : ev g fa (n + 1) i k = ev g fa n (i + 1) (evs fa (g (2 * i)) (g (2 * i + 1)) k) := rfl
/-- what a run of steps of a law comes to -/
def CT (f fa : Nat → Int) (l b e : Int) : Int := (ev (SG f l.toNat) fa (e - b).toNat b.toNat []).headD 0
def PL (p : Nat → Int) : List Int → Prop
  | [] => True
  | a :: r => p r.length = a ∧ PL p r
def CI (p f fa : Nat → Int) (l e i top R : Int) : Prop := (0 ≤ l ∧ 0 ≤ i) ∧ ef (SG f l.toNat) (e - i).toNat i.toNat top = some 1 ∧ ∃ k : List Int, (k.length : Int) = top ∧ PL p k ∧ (ev (SG f l.toNat) fa (e - i).toNat i.toNat k).headD 0 = R
theorem SG_0 {f : Nat → Int} {l i : Int} (hl : 0 ≤ l) (hi : 0 ≤ i) : SG f l.toNat (2 * i.toNat) = f ((1240 + (1020 * l)) + (2 * i)).toNat := by
  unfold SG; congr 1; omega
theorem SG_1 {f : Nat → Int} {l i : Int} (hl : 0 ≤ l) (hi : 0 ≤ i) : SG f l.toNat (2 * i.toNat + 1) = f (((1240 + (1020 * l)) + (2 * i)) + 1).toNat := by
  unfold SG; congr 1; omega
theorem CI_0 {p f fa : Nat → Int} {l b e : Int} (hl : 0 ≤ l) (hb : 0 ≤ b) (h : Seg (SG f l.toNat) b.toNat e.toNat) (he : 0 ≤ e) : CI p f fa l e b 0 (CT f fa l b e) := by
  refine ⟨⟨hl, hb⟩, ?_, [], rfl, trivial, rfl⟩
  have := h.2 0 (by decide)
  rw [show (e - b).toNat = e.toNat - b.toNat by omega]
  exact this
theorem CI_end {p f fa : Nat → Int} {l e i top R : Int} (h : CI p f fa l e i top R) (hi : e ≤ i) : p 0 = R := by
  obtain ⟨-, h1, k, h2, h3, h4⟩ := h
  rw [show (e - i).toNat = 0 by omega] at h1 h4
  have ht : top = 1 := Option.some.inj h1
  rw [ht] at h2
  match k, h2, h3, h4 with
  | [a], _, h3, h4 => exact h3.1.trans h4
theorem CI_step {p f fa : Nat → Int} {l e i top R : Int} (h : CI p f fa l e i top R) (hi : i < e) : (0 ≤ f ((1240 + (1020 * l)) + (2 * i)).toNat ∧ f ((1240 + (1020 * l)) + (2 * i)).toNat ≤ 6) ∨ (f ((1240 + (1020 * l)) + (2 * i)).toNat = 10 ∧ 1 ≤ top ∧ (1 ≤ f (((1240 + (1020 * l)) + (2 * i)) + 1).toNat ∧ f (((1240 + (1020 * l)) + (2 * i)) + 1).toNat ≤ 9999)) ∨ (f ((1240 + (1020 * l)) + (2 * i)).toNat = 14 ∧ 1 ≤ top) ∨ ((7 ≤ f ((1240 + (1020 * l)) + (2 * i)).toNat ∧ f ((1240 + (1020 * l)) + (2 * i)).toNat ≤ 16 ∧ f ((1240 + (1020 * l)) + (2 * i)).toNat ≠ 10 ∧ f ((1240 + (1020 * l)) + (2 * i)).toNat ≠ 14) ∧ 2 ≤ top) := by
  obtain ⟨⟨hl, h0⟩, h1, -⟩ := h
  rw [show (e - i).toNat = (e - (i + 1)).toNat + 1 by omega] at h1
  have := ef_step h1
  rw [SG_0 hl h0, SG_1 hl h0] at this
  rcases this with h | h | h | h
  · exact .inl h.1
  · exact .inr (.inl ⟨h.1, h.2.1, h.2.2.1⟩)
  · exact .inr (.inr (.inl ⟨h.1, h.2.1⟩))
  · exact .inr (.inr (.inr ⟨h.1, h.2.1⟩))
theorem PL_con {p p' : Nat → Int} : ∀ {k : List Int}, PL p k → (∀ j, j < k.length → p' j = p j) → PL p' k
  | [], _, _ => trivial
  | a :: r, h, g => ⟨(g r.length (Nat.lt_succ_self _)).trans h.1, PL_con h.2 (fun j hj => g j (Nat.lt_succ_of_lt hj))⟩
theorem CI_push {p p' f fa : Nat → Int} {l e i top R x : Int} (h : CI p f fa l e i top R) (hi : i < e) (hs : 0 ≤ f ((1240 + (1020 * l)) + (2 * i)).toNat ∧ f ((1240 + (1020 * l)) + (2 * i)).toNat ≤ 6) (hx : x = if f ((1240 + (1020 * l)) + (2 * i)).toNat = 0 then f (((1240 + (1020 * l)) + (2 * i)) + 1).toNat else fa (f ((1240 + (1020 * l)) + (2 * i)).toNat).toNat) (hp : ∀ j, ¬ j = top.toNat → p' j = p j) (hp' : p' top.toNat = x) : CI p' f fa l e (i + 1) (top + 1) R := by
  obtain ⟨⟨hl, h0⟩, h1, k, h2, h3, h4⟩ := h
  rw [show (e - i).toNat = (e - (i + 1)).toNat + 1 by omega] at h1 h4
  have h5 := ef_step h1
  rw [SG_0 hl h0, SG_1 hl h0] at h5
  have e1 : (i + 1).toNat = i.toNat + 1 := by omega
  refine ⟨⟨hl, by omega⟩, ?_, x :: k, by rw [List.length_cons]; omega, ⟨?_, PL_con h3 (fun j hj => hp j (by omega))⟩, ?_⟩
  · rw [e1]
    rcases h5 with h | h | h | h
    · exact h.2
    · omega
    · omega
    · omega
  · rw [show k.length = top.toNat by omega]; exact hp'
  · rw [e1, ← h4]
    show _ = (ev _ fa (_ + 1) _ k).headD 0
    rw [ev_s, SG_0 hl h0, SG_1 hl h0]
    unfold evs
    rw [if_pos hs, ← hx]
theorem CI_div {p p' f fa : Nat → Int} {l e i top R x : Int} (h : CI p f fa l e i top R) (hi : i < e) (hs : f ((1240 + (1020 * l)) + (2 * i)).toNat = 10) (hx : x = wr ((wr (p (top - 1).toNat)).tdiv (wr (f (((1240 + (1020 * l)) + (2 * i)) + 1).toNat)))) (hp : ∀ j, ¬ j = (top - 1).toNat → p' j = p j) (hp' : p' (top - 1).toNat = x) : CI p' f fa l e (i + 1) top R := by
  obtain ⟨⟨hl, h0⟩, h1, k, h2, h3, h4⟩ := h
  rw [show (e - i).toNat = (e - (i + 1)).toNat + 1 by omega] at h1 h4
  have h5 := ef_step h1
  rw [SG_0 hl h0, SG_1 hl h0] at h5
  have e1 : (i + 1).toNat = i.toNat + 1 := by omega
  have h6 : 1 ≤ top ∧ ef (SG f l.toNat) (e - (i + 1)).toNat (i.toNat + 1) top = some 1 := by
    rcases h5 with h | h | h | h
    · omega
    · exact ⟨h.2.1, h.2.2.2⟩
    · omega
    · omega
  match k, h2, h3, h4 with
  | [], h2, _, _ => simp at h2; omega
  | a :: r, h2, h3, h4 =>
    rw [List.length_cons] at h2
    have hr : r.length = (top - 1).toNat := by omega
    refine ⟨⟨hl, by omega⟩, by rw [e1]; exact h6.2, x :: r, by rw [List.length_cons]; omega, ⟨by rw [hr]; exact hp', PL_con h3.2 (fun j hj => hp j (by omega))⟩, ?_⟩
    rw [e1, ← h4]
    show _ = (ev _ fa (_ + 1) _ (a :: r)).headD 0
    rw [ev_s, SG_0 hl h0, SG_1 hl h0]
    unfold evs
    rw [if_neg (by omega), if_pos hs, hx, ← hr, h3.1]
theorem CI_not {p p' f fa : Nat → Int} {l e i top R x : Int} (h : CI p f fa l e i top R) (hi : i < e) (hs : f ((1240 + (1020 * l)) + (2 * i)).toNat = 14) (hx : x = wr (1 - p (top - 1).toNat)) (hp : ∀ j, ¬ j = (top - 1).toNat → p' j = p j) (hp' : p' (top - 1).toNat = x) : CI p' f fa l e (i + 1) top R := by
  obtain ⟨⟨hl, h0⟩, h1, k, h2, h3, h4⟩ := h
  rw [show (e - i).toNat = (e - (i + 1)).toNat + 1 by omega] at h1 h4
  have h5 := ef_step h1
  rw [SG_0 hl h0, SG_1 hl h0] at h5
  have e1 : (i + 1).toNat = i.toNat + 1 := by omega
  have h6 : 1 ≤ top ∧ ef (SG f l.toNat) (e - (i + 1)).toNat (i.toNat + 1) top = some 1 := by
    rcases h5 with h | h | h | h
    · omega
    · omega
    · exact ⟨h.2.1, h.2.2⟩
    · omega
  match k, h2, h3, h4 with
  | [], h2, _, _ => simp at h2; omega
  | a :: r, h2, h3, h4 =>
    rw [List.length_cons] at h2
    have hr : r.length = (top - 1).toNat := by omega
    refine ⟨⟨hl, by omega⟩, by rw [e1]; exact h6.2, x :: r, by rw [List.length_cons]; omega, ⟨by rw [hr]; exact hp', PL_con h3.2 (fun j hj => hp j (by omega))⟩, ?_⟩
    rw [e1, ← h4]
    show _ = (ev _ fa (_ + 1) _ (a :: r)).headD 0
    rw [ev_s, SG_0 hl h0, SG_1 hl h0]
    unfold evs
    rw [if_neg (by omega), if_neg (by omega), if_pos hs, hx, ← hr, h3.1]
theorem CI_bin {p p' f fa : Nat → Int} {l e i top R x : Int} (h : CI p f fa l e i top R) (hi : i < e) (hs : 7 ≤ f ((1240 + (1020 * l)) + (2 * i)).toNat ∧ f ((1240 + (1020 * l)) + (2 * i)).toNat ≤ 16 ∧ f ((1240 + (1020 * l)) + (2 * i)).toNat ≠ 10 ∧ f ((1240 + (1020 * l)) + (2 * i)).toNat ≠ 14) (hx : x = wr (bo (f ((1240 + (1020 * l)) + (2 * i)).toNat) (p ((top + (-1)) - 1).toNat) (p (top + (-1)).toNat))) (hp : ∀ j, ¬ j = ((top + (-1)) - 1).toNat → p' j = p j) (hp' : p' ((top + (-1)) - 1).toNat = x) : CI p' f fa l e (i + 1) (top + (-1)) R := by
  obtain ⟨⟨hl, h0⟩, h1, k, h2, h3, h4⟩ := h
  rw [show (e - i).toNat = (e - (i + 1)).toNat + 1 by omega] at h1 h4
  have h5 := ef_step h1
  rw [SG_0 hl h0, SG_1 hl h0] at h5
  have e1 : (i + 1).toNat = i.toNat + 1 := by omega
  have h6 : 2 ≤ top ∧ ef (SG f l.toNat) (e - (i + 1)).toNat (i.toNat + 1) (top + (-1)) = some 1 := by
    rcases h5 with h | h | h | h
    · omega
    · omega
    · omega
    · exact ⟨h.2.1, by rw [show top + (-1) = top - 1 by omega]; exact h.2.2⟩
  match k, h2, h3, h4 with
  | [], h2, _, _ => simp at h2; omega
  | [_], h2, _, _ => simp at h2; omega
  | b :: a :: r, h2, h3, h4 =>
    rw [List.length_cons, List.length_cons] at h2
    have hr : r.length = ((top + (-1)) - 1).toNat := by omega
    have hr1 : (a :: r).length = (top + (-1)).toNat := by rw [List.length_cons]; omega
    refine ⟨⟨hl, by omega⟩, by rw [e1]; exact h6.2, x :: r, by rw [List.length_cons]; omega, ⟨by rw [hr]; exact hp', PL_con h3.2.2 (fun j hj => hp j (by omega))⟩, ?_⟩
    rw [e1, ← h4]
    show _ = (ev _ fa (_ + 1) _ (b :: a :: r)).headD 0
    rw [ev_s, SG_0 hl h0, SG_1 hl h0]
    unfold evs
    rw [if_neg (by omega), if_neg (by omega), if_neg (by omega), hx, ← hr, ← hr1, h3.1, h3.2.1]
def clp (v most : Int) : Int := if v < 0 then 0 else if most < v then most else v
/-- a law's weight of a rule (8: the pull), from a line on -/
def wgh (f fa : Nat → Int) (l rule : Int) : Nat → Int → Int
  | 0, _ => 0
  | n + 1, i => if ¬ f (978 + ((16 * l) + i)).toNat = rule then wgh f fa l rule n (i + 1) else if f (1106 + ((16 * l) + i)).toNat < f (1170 + ((16 * l) + i)).toNat ∧ ¬ CT f fa l (f (1106 + ((16 * l) + i)).toNat) (f (1170 + ((16 * l) + i)).toNat) = 1 then wgh f fa l rule n (i + 1) else clp (CT f fa l (f (1042 + ((16 * l) + i)).toNat) (f (1106 + ((16 * l) + i)).toNat)) (if rule = 8 then 100 else 99)
def WH (f fa : Nat → Int) (l rule : Int) : Int := wgh f fa l rule (f (974 + l).toNat).toNat 0
def WI (f fa : Nat → Int) (l rule i : Int) : Prop := wgh f fa l rule (f (974 + l).toNat - i).toNat i = WH f fa l rule
theorem WI_0 {f fa : Nat → Int} {l rule : Int} : WI f fa l rule 0 := by
  unfold WI WH
  rw [show f (974 + l).toNat - 0 = f (974 + l).toNat by omega]
theorem WI_s {f fa : Nat → Int} {l rule i : Int} (h : WI f fa l rule i) (hi : i < f (974 + l).toNat) : (if ¬ f (978 + ((16 * l) + i)).toNat = rule then wgh f fa l rule (f (974 + l).toNat - (i + 1)).toNat (i + 1) else if f (1106 + ((16 * l) + i)).toNat < f (1170 + ((16 * l) + i)).toNat ∧ ¬ CT f fa l (f (1106 + ((16 * l) + i)).toNat) (f (1170 + ((16 * l) + i)).toNat) = 1 then wgh f fa l rule (f (974 + l).toNat - (i + 1)).toNat (i + 1) else clp (CT f fa l (f (1042 + ((16 * l) + i)).toNat) (f (1106 + ((16 * l) + i)).toNat)) (if rule = 8 then 100 else 99)) = WH f fa l rule := by
  unfold WI at h
  rw [show (f (974 + l).toNat - i).toNat = (f (974 + l).toNat - (i + 1)).toNat + 1 by omega] at h
  exact h
theorem WI_n1 {f fa : Nat → Int} {l rule i : Int} (h : WI f fa l rule i) (hi : i < f (974 + l).toNat) (g : ¬ f (978 + ((16 * l) + i)).toNat = rule) : WI f fa l rule (i + 1) := by
  have := WI_s h hi
  rw [if_pos g] at this
  exact this
theorem WI_n2 {f fa : Nat → Int} {l rule i : Int} (h : WI f fa l rule i) (hi : i < f (974 + l).toNat) (g : f (978 + ((16 * l) + i)).toNat = rule) (g1 : f (1106 + ((16 * l) + i)).toNat < f (1170 + ((16 * l) + i)).toNat) (g2 : ¬ CT f fa l (f (1106 + ((16 * l) + i)).toNat) (f (1170 + ((16 * l) + i)).toNat) = 1) : WI f fa l rule (i + 1) := by
  have := WI_s h hi
  rw [if_neg (fun z => z g), if_pos ⟨g1, g2⟩] at this
  exact this
theorem WI_v {f fa : Nat → Int} {l rule i : Int} (h : WI f fa l rule i) (hi : i < f (974 + l).toNat) (g : f (978 + ((16 * l) + i)).toNat = rule) (g1 : ¬ (f (1106 + ((16 * l) + i)).toNat < f (1170 + ((16 * l) + i)).toNat ∧ ¬ CT f fa l (f (1106 + ((16 * l) + i)).toNat) (f (1170 + ((16 * l) + i)).toNat) = 1)) : clp (CT f fa l (f (1042 + ((16 * l) + i)).toNat) (f (1106 + ((16 * l) + i)).toNat)) (if rule = 8 then 100 else 99) = WH f fa l rule := by
  have := WI_s h hi
  rw [if_neg (fun z => z g), if_neg g1] at this
  exact this
theorem WI_e {f fa : Nat → Int} {l rule i : Int} (h : WI f fa l rule i) (hi : f (974 + l).toNat ≤ i) : WH f fa l rule = 0 := by
  unfold WI at h
  rw [show (f (974 + l).toNat - i).toNat = 0 by omega] at h
  exact h.symm
theorem clp_R {v most : Int} (h : 0 ≤ most) : 0 ≤ clp v most ∧ clp v most ≤ most := by
  unfold clp; split
  · omega
  · split <;> omega
theorem wgh_R {f fa : Nat → Int} {l rule : Int} : ∀ (n : Nat) (i : Int), 0 ≤ wgh f fa l rule n i ∧ wgh f fa l rule n i ≤ (if rule = 8 then 100 else 99)
  | 0, _ => by unfold wgh; split <;> omega
  | n + 1, i => by
    unfold wgh
    split
    · exact wgh_R n (i + 1)
    · split
      · exact wgh_R n (i + 1)
      · exact clp_R (by split <;> omega)
theorem WH_R {f fa : Nat → Int} {l rule : Int} : 0 ≤ WH f fa l rule ∧ WH f fa l rule ≤ (if rule = 8 then 100 else 99) := wgh_R _ _
def WS (f fa : Nat → Int) (l : Int) : Nat → Int
  | 0 => 0
  | n + 1 => WS f fa l n + WH f fa l n
theorem WS_s {f fa : Nat → Int} {l r : Int} (h : 0 ≤ r) : WS f fa l (r + 1).toNat = WS f fa l r.toNat + WH f fa l r := by
  rw [show (r + 1).toNat = r.toNat + 1 by omega]
  show WS f fa l r.toNat + WH f fa l (r.toNat : Nat) = _
  rw [show ((r.toNat : Nat) : Int) = r by omega]
theorem WH_R7 {f fa : Nat → Int} {l r : Int} (h : ¬ r = 8) : 0 ≤ WH f fa l r ∧ WH f fa l r ≤ 99 := by
  have := WH_R (f := f) (fa := fa) (l := l) (rule := r)
  rw [if_neg h] at this
  exact this
theorem SG_con {f f' : Nat → Int} {k : Nat} (h : ∀ j, 1 ≤ j → f' j = f j) : SG f' k = SG f k := by
  unfold SG; funext j; exact h _ (by omega)
theorem CT_con {f f' fa : Nat → Int} {l b e : Int} (h : ∀ j, 1 ≤ j → f' j = f j) : CT f' fa l b e = CT f fa l b e := by
  unfold CT; rw [SG_con h]
theorem wgh_con {f f' fa : Nat → Int} {l rule : Int} (hl : 0 ≤ l) (h : ∀ j, 1 ≤ j → f' j = f j) : ∀ (n : Nat) (i : Int), 0 ≤ i → wgh f' fa l rule n i = wgh f fa l rule n i
  | 0, _, _ => rfl
  | n + 1, i, hi => by
    unfold wgh
    rw [wgh_con hl h n (i + 1) (by omega), h (978 + ((16 * l) + i)).toNat (by omega), h (1106 + ((16 * l) + i)).toNat (by omega), h (1170 + ((16 * l) + i)).toNat (by omega), h (1042 + ((16 * l) + i)).toNat (by omega), CT_con h, CT_con h]
theorem WH_con {f f' fa : Nat → Int} {l rule : Int} (hl : 0 ≤ l) (h : ∀ j, 1 ≤ j → f' j = f j) : WH f' fa l rule = WH f fa l rule := by
  unfold WH
  rw [h (974 + l).toNat (by omega), wgh_con hl h _ _ (by decide)]
theorem WS_con {f f' fa : Nat → Int} {l : Int} (hl : 0 ≤ l) (h : ∀ j, 1 ≤ j → f' j = f j) : ∀ n, WS f' fa l n = WS f fa l n
  | 0 => rfl
  | n + 1 => by unfold WS; rw [WS_con hl h n, WH_con hl h]
