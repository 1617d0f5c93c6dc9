/-! the reference's reader: where it stands among the tokens -/
def KF (s : Int) (b : Nat → Int) (n : Nat) : Nat → Int := fun i => KD s b n (TP b n i)
def VF (b : Nat → Int) (n : Nat) : Nat → Int := fun i => VL b n (TP b n i)
def SF (b : Nat → Int) (n : Nat) : Nat → Int := fun i => (TP b n i : Int)
/-- the token that begins at p stands there -/
def CUP (s : Int) (b : Nat → Int) (n : Nat) (D : Nat → Nat → Int) (p : Nat) : Prop := D 79 15 = (p : Int) ∧ D 79 14 = RK s (KD s b n p) ∧ D 79 13 = (if p < n then (TE b n p : Int) else (n : Int)) ∧ (KD s b n p = 2 → D 79 16 = VL b n p)
def CUR (s : Int) (b : Nat → Int) (n : Nat) (D : Nat → Nat → Int) (i : Nat) : Prop := CUP s b n D (TP b n i)
theorem TP_le {b : Nat → Int} {n : Nat} : ∀ i, TP b n i ≤ n
  | 0 => (RN_R (P := pB) (b := b) (n := n) _ 0 rfl (Nat.zero_le _)).2.1
  | i + 1 => by
    show (if _ then _ else _) ≤ n
    split
    · exact (RN_R (P := pB) (b := b) (n := n) _ _ rfl (TE_R ‹_›).2).2.1
    · exact Nat.le_refl _
theorem CUR_sm {s : Int} {b : Nat → Int} {n i : Nat} {D D1 : Nat → Nat → Int} (h : CUR s b n D i) (e3 : D1 79 13 = D 79 13) (e4 : D1 79 14 = D 79 14) (e5 : D1 79 15 = D 79 15) (e6 : D1 79 16 = D 79 16) : CUR s b n D1 i := by
  unfold CUR CUP at h ⊢; rw [e3, e4, e5, e6]; exact h
theorem CUR_n {s : Int} {b : Nat → Int} {n i : Nat} {D D1 : Nat → Nat → Int} (h : CUR s b n D i) (h1 : CUP s b n D1 (RN pB b n (D 79 13).toNat)) : CUR s b n D1 (i + 1) := by
  have e : RN pB b n (D 79 13).toNat = TP b n (i + 1) := by
    rw [h.2.2.1]
    show _ = (if _ then _ else _)
    by_cases c : TP b n i < n
    · rw [if_pos c, if_pos c]; rfl
    · rw [if_neg c, if_neg c]; exact RN_e (.inl (Nat.le_refl _))
  unfold CUR; rw [← e]; exact h1
theorem KF_z {s : Int} {b : Nat → Int} {n t : Nat} (h : TP b n t = n) : KZ (KF s b n) t := by
  have key : ∀ k, TP b n (t + k) = n := fun k => by
    induction k with
    | zero => exact h
    | succ k ih =>
      show (if TP b n (t + k) < n then _ else n) = n
      rw [if_neg (by omega)]
  intro i hi
  show KD s b n (TP b n i) = 0
  rw [show i = t + (i - t) by omega, key]
  exact KD_e (Nat.le_refl _)
theorem wi_B : ∀ (ws : List (List Int)) (b : Nat → Int) (p q : Nat) (k : Int), wi ws b p q k = -1 ∨ wi ws b p q k ≤ k + (ws.length : Int) - 1
  | [], _, _, _, _ => .inl rfl
  | w :: ws, b, p, q, k => by
    unfold wi
    split
    · right; show k ≤ k + ((ws.length + 1 : Nat) : Int) - 1; omega
    · rcases wi_B ws b p q (k + 1) with h | h
      · exact .inl h
      · right; show _ ≤ k + ((ws.length + 1 : Nat) : Int) - 1; omega
/-- what a kind is by number, in both ways of counting -/
abbrev KRs (s k r : Int) : Prop := (0 ≤ k ∧ k ≤ 2 ∧ r = k) ∨ (40 ≤ k ∧ k ≤ 62 ∧ r = 100 + k) ∨ (s = 0 ∧ 1000 ≤ k ∧ k ≤ 1008 ∧ r = k - 980) ∨ (s = 1 ∧ ((k = 1000 ∧ r = 7) ∨ (k = 1001 ∧ r = 8) ∨ (k = 1002 ∧ r = 3) ∨ (k = 1003 ∧ r = 4) ∨ (k = 1004 ∧ r = 5) ∨ (k = 1005 ∧ r = 6) ∨ (1006 ≤ k ∧ k ≤ 1011 ∧ r = k - 965)))
theorem KD_R {s : Int} {b : Nat → Int} {n p : Nat} (hs : s = 0 ∨ s = 1) : KRs s (KD s b n p) (RK s (KD s b n p)) := by
  have h : (0 ≤ KD s b n p ∧ KD s b n p ≤ 2) ∨ (40 ≤ KD s b n p ∧ KD s b n p ≤ 62) ∨ (s = 0 ∧ 1000 ≤ KD s b n p ∧ KD s b n p ≤ 1008) ∨ (s = 1 ∧ 1000 ≤ KD s b n p ∧ KD s b n p ≤ 1011) := by
    unfold KD
    split
    · exact .inl ⟨by decide, by decide⟩
    · split
      · split
        · exact .inl ⟨by decide, by decide⟩
        · exact .inl ⟨by decide, by decide⟩
      · split
        · have h1 := wi_R (wW s) b p (TE b n p) 0 (by decide)
          have h2 := wi_B (wW s) b p (TE b n p) 0
          split
          · exact .inl ⟨by decide, by decide⟩
          · right; right
            rcases hs with e | e
            · subst e
              have h3 : (((wW 0).length : Nat) : Int) = 9 := rfl
              left; omega
            · subst e
              have h3 : (((wW 1).length : Nat) : Int) = 12 := rfl
              right; omega
        · split
          · have := pS_R ‹_›; right; left; exact this
          · exact .inl ⟨by decide, by decide⟩
  generalize KD s b n p = k at h ⊢
  unfold RK
  rcases h with h | h | h | h
  · left; rw [if_pos h.2]; exact ⟨h.1, h.2, rfl⟩
  · right; left; rw [if_neg (by omega), if_pos (by omega)]; exact ⟨h.1, h.2, rfl⟩
  · right; right; left; rw [if_neg (by omega), if_neg (by omega), if_pos h.1]; exact ⟨h.1, h.2.1, h.2.2, rfl⟩
  · right; right; right
    refine ⟨h.1, ?_⟩
    rw [if_neg (by omega), if_neg (by omega), if_neg (by omega)]
    (repeat' split) <;> omega
theorem CUR_R {s : Int} {b : Nat → Int} {n i : Nat} {D : Nat → Nat → Int} (h : CUR s b n D i) (hs : s = 0 ∨ s = 1) : KRs s (KF s b n i) (D 79 14) := by rw [h.2.1]; exact KD_R hs
theorem CUR_b {s : Int} {b : Nat → Int} {n i : Nat} {D : Nat → Nat → Int} (h : CUR s b n D i) : 0 ≤ D 79 15 ∧ D 79 15 ≤ n ∧ D 79 13 ≤ n ∧ (¬ KF s b n i = 0 → D 79 15 + 1 ≤ D 79 13) ∧ D 79 15 ≤ D 79 13 := by
  have h1 := TP_le (b := b) (n := n) i
  have h2 := h.1
  have h3 := h.2.2.1
  by_cases c : TP b n i < n
  · rw [if_pos c] at h3
    have := TE_R (b := b) c
    omega
  · rw [if_neg c] at h3
    have e : KF s b n i = 0 := KD_e (by omega)
    rw [e]; omega
theorem CUR_v {s : Int} {b : Nat → Int} {n i : Nat} {D : Nat → Nat → Int} (h : CUR s b n D i) (hk : KF s b n i = 2) : D 79 16 = VF b n i ∧ 0 ≤ VF b n i ∧ VF b n i ≤ 9999 := ⟨h.2.2.2 hk, VL_R hk⟩
/-- a step that answers whether it went well -/
def RSX (s : Int) (b : Nat → Int) (n i : Nat) (D2 : Nat → Nat → Int) (v : Int) (r : GR) : Prop := (r.1 = 0 ∧ v = 1 ∧ CUR s b n D2 r.2) ∨ (¬ r.1 = 0 ∧ v = 0 ∧ D2 79 17 = r.1 ∧ D2 79 18 = SF b n r.2)
theorem RSX_1 {s : Int} {b : Nat → Int} {n i : Nat} {D2 : Nat → Nat → Int} {v : Int} {r : GR} (h : RSX s b n i D2 v r) (hv : ¬ v = 0) : ∃ j, r = (0, j) ∧ CUR s b n D2 j := by
  rcases h with ⟨a, _, c⟩ | ⟨_, b, _⟩
  · exact ⟨r.2, by rw [← a], c⟩
  · exact absurd b hv
theorem RSX_0 {s : Int} {b : Nat → Int} {n i : Nat} {D2 : Nat → Nat → Int} {v : Int} {r : GR} (h : RSX s b n i D2 v r) (hv : v = 0) : ¬ r.1 = 0 ∧ D2 79 17 = r.1 ∧ D2 79 18 = SF b n r.2 := by
  rcases h with ⟨_, a, _⟩ | ⟨a, _, c⟩
  · omega
  · exact ⟨a, c⟩
theorem TE_l0 {b : Nat → Int} {n p l : Int} (hp : 0 ≤ p ∧ p < n) (h : pL (b p.toNat) = true) (hi : RN pL b n.toNat p.toNat = RN pL b n.toNat l.toNat) (h0 : 0 ≤ l) (he : n ≤ l ∨ pL (b l.toNat) = false) : l = ((TE b n.toNat p.toNat : Nat) : Int) :=
  TE_l hp.1 h ((RN_p hp h).trans hi) h0 he
theorem TE_d0 {b : Nat → Int} {n p l : Int} (hp : 0 ≤ p ∧ p < n) (hl : pL (b p.toNat) = false) (h : pD (b p.toNat) = true) (hi : RN pD b n.toNat p.toNat = RN pD b n.toNat l.toNat) (h0 : 0 ≤ l) (he : n ≤ l ∨ pD (b l.toNat) = false) : l = ((TE b n.toNat p.toNat : Nat) : Int) :=
  TE_d hp.1 hl h ((RN_p hp h).trans hi) h0 he
theorem CUP_e {s n : Int} {b : Nat → Int} {D : Nat → Nat → Int} {q : Nat} (hq : q = (D 79 15).toNat) (h0 : 0 ≤ D 79 15) (h : n ≤ D 79 15) (hn : D 79 13 = n) (h2 : D 79 15 ≤ n) (h4 : D 79 14 = 0) : CUP s b n.toNat D q := by
  subst hq
  have e : KD s b n.toNat (D 79 15).toNat = 0 := KD_e (by omega)
  refine ⟨by omega, by rw [e, h4]; rfl, ?_, fun z => by rw [e] at z; cases z⟩
  rw [if_neg (by omega)]; omega
theorem CUP_w {s n k : Int} {b : Nat → Int} {D : Nat → Nat → Int} {q : Nat} (hq : q = (D 79 15).toNat) (h0 : 0 ≤ D 79 15) (h : D 79 15 < n) (hl : pL (b (D 79 15).toNat) = true) (hT : D 79 13 = ((TE b n.toNat (D 79 15).toNat : Nat) : Int)) (hk : wi (wW s) b (D 79 15).toNat (D 79 13).toNat 0 = k) (h4 : D 79 14 = RK s (if k = -1 then 1 else 1000 + k)) (hr : 0 ≤ k ∨ k = -1) : CUP s b n.toNat D q := by
  subst hq
  have hd : pD (b (D 79 15).toNat) = false := by
    have := of_decide_eq_true hl
    exact decide_eq_false (by omega)
  have e : KD s b n.toNat (D 79 15).toNat = if k = -1 then 1 else 1000 + k := by
    rw [KD_l rfl (by omega) hd hl, show TE b n.toNat (D 79 15).toNat = (D 79 13).toNat by omega, hk]
  refine ⟨by omega, by rw [e, h4], ?_, fun z => ?_⟩
  · rw [if_pos (by omega), hT]
  · rw [e] at z
    split at z <;> omega
theorem CUP_d {s n : Int} {b : Nat → Int} {D : Nat → Nat → Int} {q : Nat} (hq : q = (D 79 15).toNat) (h0 : 0 ≤ D 79 15) (h : D 79 15 < n) (hd : pD (b (D 79 15).toNat) = true) (hT : D 79 13 = ((TE b n.toNat (D 79 15).toNat : Nat) : Int)) (h4 : D 79 14 = if D 79 13 - D 79 15 < 5 then 2 else 1) (h6 : D 79 13 ≤ D 79 15 + 4 → D 79 16 = nv b (D 79 15).toNat (D 79 13 - D 79 15).toNat) : CUP s b n.toNat D q := by
  subst hq
  have hr := TE_R (b := b) (n := n.toNat) (p := (D 79 15).toNat) (by omega)
  have e : KD s b n.toNat (D 79 15).toNat = if D 79 13 - D 79 15 < 5 then 2 else 1 := by
    rw [KD_d (by omega) hd]
    by_cases c : D 79 13 - D 79 15 < 5
    · rw [if_pos c, if_pos (by omega)]
    · rw [if_neg c, if_neg (by omega)]
  refine ⟨by omega, ?_, ?_, fun z => ?_⟩
  · rw [e, h4]
    split <;> rfl
  · rw [if_pos (by omega), hT]
  · rw [e] at z
    split at z
    · rw [h6 (by omega)]
      unfold VL
      congr 1; omega
    · cases z
theorem CUP_s {s n c : Int} {b : Nat → Int} {D : Nat → Nat → Int} {q : Nat} (hq : q = (D 79 15).toNat) (h0 : 0 ≤ D 79 15) (h : D 79 15 < n) (hl : pL (b (D 79 15).toNat) = false) (hd : pD (b (D 79 15).toNat) = false) (hc : c = b (D 79 15).toNat) (h13 : D 79 13 = D 79 15 + 1) (h4 : (pS c = true ∧ D 79 14 = 100 + c) ∨ (pS c = false ∧ D 79 14 = 1)) : CUP s b n.toNat D q := by
  subst hq
  have hT := TE_1 (n := n) h0 hl hd
  have e : KD s b n.toNat (D 79 15).toNat = if pS c = true then c else 1 := by
    rw [KD_o (by omega) hd hl, ← hc]
  refine ⟨by omega, ?_, ?_, fun z => ?_⟩
  · rcases h4 with ⟨a, x⟩ | ⟨a, x⟩
    · rw [e, if_pos a, x]
      have := pS_R a
      unfold RK
      rw [if_neg (by omega), if_pos (by omega)]
    · rw [e, if_neg (by rw [a]; decide), x]; rfl
  · rw [if_pos (by omega)]; omega
  · rw [e] at z
    split at z
    · have := pS_R ‹_›; omega
    · cases z
theorem nv_z {b : Nat → Int} {p : Nat} {x d : Int} (hx : x = 0) (hd : d ≤ 0) : x = nv b p d.toNat := by
  rw [show d.toNat = 0 by omega]; exact hx
theorem RSX_ok {s : Int} {b : Nat → Int} {n i j : Nat} {D2 : Nat → Nat → Int} {r : GR} (e : r = (0, j)) (h : CUR s b n D2 j) : RSX s b n i D2 1 r := by subst e; exact .inl ⟨rfl, rfl, h⟩
theorem RSX_no {s k : Int} {b : Nat → Int} {n i j : Nat} {D2 : Nat → Nat → Int} {r : GR} (e : r = (k, j)) (hk : ¬ k = 0) (h1 : D2 79 17 = k) (h2 : D2 79 18 = SF b n j) : RSX s b n i D2 0 r := by subst e; exact .inr ⟨hk, rfl, h1, h2⟩
theorem RSX_f {s : Int} {b : Nat → Int} {n i : Nat} {D1 D2 : Nat → Nat → Int} {r q : GR} (e : r = q) (h : ¬ q.1 = 0 ∧ D1 79 17 = q.1 ∧ D1 79 18 = SF b n q.2) (e7 : D2 79 17 = D1 79 17) (e8 : D2 79 18 = D1 79 18) : RSX s b n i D2 0 r := by subst e; exact .inr ⟨h.1, rfl, by rw [e7]; exact h.2.1, by rw [e8]; exact h.2.2⟩
theorem gA_lit {K V : Nat → Int} {i : Nat} (hv : K i = 2 → V i ≤ 9999) : gD K V i = if K i = 2 then (if 1 ≤ V i ∨ ¬ 0 ≤ V i then (0, i + 1) else (2, i)) else (1, i) := by
  unfold gD
  by_cases c : K i = 2
  · rw [if_pos c, if_pos c]
    by_cases c2 : V i = 0
    · rw [if_pos c2, if_neg (by omega)]
    · rw [if_neg c2, if_pos (by omega)]
  · rw [if_neg c, if_neg c]
def gEv (K V : Nat → Int) (d i : Nat) : GR := gB (gC K V d i) (gN K (gC K V d) 600)
def gOp (i : Nat) : GR := (0, i + 1)
def g3 (i : Nat) : GR := (3, i)
theorem gEv_M {K V : Nat → Int} {t d i : Nat} (h : KZ K t) : gM (gEv K V d i) i t := gB_M (gC_M h d i) (fun j _ h2 => gN_W (gC_M h d) 600 j h2)
theorem gB__M {K V : Nat → Int} {t d i : Nat} (h : KZ K t) : gM (gB_ K V d i) i t := gB_M (gC_M h d i) (fun j _ h2 => gL_W (gC_M h d) 600 j h2)
theorem gT_M' {K V : Nat → Int} {t i : Nat} (h : KZ K t) : gM (gT K V i) i t := gT_M h
theorem gB_NO' {K V : Nat → Int} {t d i : Nat} (h : KZ K t) (ht : t ≤ 501) : gB_ K V d i = gB (gEv K V d i) (gO K (gC K V d) 600) := gB_NO h ht
/-- an act, or a line of a LAW, where so many stand already -/
def gAF (K V : Nat → Int) (l : Int) (i : Nat) : GR := if ¬ (1000 ≤ K i ∧ K i ≤ 1008) then (1, i) else if l = 24 then (3, i) else gAct K V (K i - 1000) (i + 1)
def gLF (K V : Nat → Int) (l : Int) (i : Nat) : GR := if ¬ (K i = 1000 ∨ K i = 1001) then (1, i) else if l = 16 then (3, i) else gLine K V i
/-- what is left of an act, its ; too -/
def hA0 (K V : Nat → Int) (a w : Int) (j : Nat) : GR := gB (gA0 K V a w j) (gK K 59)
def hA1 (K V : Nat → Int) (a : Int) (j : Nat) : GR := gB (gA1 K V a j) (gK K 59)
def hA2 (K V : Nat → Int) (a : Int) (j : Nat) : GR := gB (gA2 K V a j) (gK K 59)
def hA3 (K V : Nat → Int) (a : Int) (j : Nat) : GR := gB (gA3 K V a j) (gK K 59)
theorem hAc_n {K V : Nat → Int} {a : Int} {i : Nat} (h : ¬ a = 8) : gAct K V a i = gB (gA K V 3 i) (hA0 K V a (V i)) := by unfold gAct; rw [gAc_n h, gB_as]; rfl
theorem hAc_p {K V : Nat → Int} {a : Int} {i : Nat} (h : a = 8) : gAct K V a i = gB (gA K V 1 i) (gK K 59) := by unfold gAct; rw [gAc_p h, gB_id]
theorem hA0_n {K V : Nat → Int} {a w : Int} {j : Nat} (h : ¬ a = 4) : hA0 K V a w j = hA1 K V a j := by unfold hA0; rw [gA0_n h]; rfl
theorem hA0_p {K V : Nat → Int} {a w : Int} {j : Nat} (h : a = 4) : hA0 K V a w j = gB (gOt K V w j) (hA1 K V a) := by unfold hA0; rw [gA0_p h, gB_as]; rfl
theorem hA1_n {K V : Nat → Int} {a : Int} {j : Nat} (h : ¬ (a = 2 ∨ a = 3 ∨ a = 4)) : hA1 K V a j = hA2 K V a j := by unfold hA1; rw [gA1_n h]; rfl
theorem hA1_p {K V : Nat → Int} {a : Int} {j : Nat} (h : a = 2 ∨ a = 3 ∨ a = 4) : hA1 K V a j = gB (gA K V 2 j) (hA2 K V a) := by unfold hA1; rw [gA1_p h, gB_as]; rfl
theorem hA2_n {K V : Nat → Int} {a : Int} {j : Nat} (h : ¬ (a = 2 ∨ a = 3 ∨ a = 4 ∨ a = 5)) : hA2 K V a j = hA3 K V a j := by unfold hA2; rw [gA2_n h]; rfl
theorem hA2_p {K V : Nat → Int} {a : Int} {j : Nat} (h : a = 2 ∨ a = 3 ∨ a = 4 ∨ a = 5) : hA2 K V a j = gB (gA K V 3 j) (hA3 K V a) := by unfold hA2; rw [gA2_p h, gB_as]; rfl
theorem hA3_n {K V : Nat → Int} {a : Int} {j : Nat} (h : ¬ a = 6) : hA3 K V a j = gK K 59 j := by unfold hA3; rw [gA3_n h]; rfl
theorem hA3_p {K V : Nat → Int} {a : Int} {j : Nat} (h : a = 6) : hA3 K V a j = gB (gA K V 1 j) (gK K 59) := by unfold hA3; rw [gA3_p h, gB_id]
/-! a whole TEXT -/
def FX (s : Int) (b : Nat → Int) (n : Nat) : Int × Nat × Int := gX (KF s b n) (VF b n) s 600 0 0
def okT (s k : Int) : Prop := (s = 0 ∧ 0 ≤ k ∧ k ≤ 7) ∨ (s = 1 ∧ 0 ≤ k ∧ k ≤ 3)
/-- what text answers (v), the FAULT (e) and its place (p) behind it -/
def TRS (s k : Int) (b : Nat → Int) (n : Nat) (v e p : Int) : Prop := (¬ okT s k → v = -1 ∧ e = 0 ∧ p = -1) ∧ (okT s k → ((FX s b n).1 = 0 → v = (FX s b n).2.2 ∧ e = 0 ∧ p = -1) ∧ (¬ (FX s b n).1 = 0 → v = -1 ∧ e = (FX s b n).1 ∧ p = SF b n (FX s b n).2.1))
theorem TRS_u {s k v v' e e' p p' : Int} {b : Nat → Int} {n : Nat} (h : TRS s k b n v e p) (h' : TRS s k b n v' e' p') : v = v' ∧ e = e' ∧ p = p' := by
  by_cases c : okT s k
  · by_cases z : (FX s b n).1 = 0
    · have x := (h.2 c).1 z; have y := (h'.2 c).1 z
      omega
    · have x := (h.2 c).2 z; have y := (h'.2 c).2 z
      omega
  · have x := h.1 c; have y := h'.1 c
    omega
theorem TOK_c {s : Int} {b : Nat → Int} {n t : Nat} {D : Nat → Nat → Int} (h : TOK s b n D t) : TKc (KF s b n) (VF b n) (SF b n) t D ∧ KZ (KF s b n) t := by
  refine ⟨⟨h.1, fun i hi => ?_⟩, KF_z h.2.1⟩
  have z := h.2.2.2 i hi
  refine ⟨z.1, fun k => ?_, z.2.2⟩
  exact ⟨z.2.1 (by rw [z.1]; exact k), VL_R k⟩
theorem TRS_x {s k : Int} {b : Nat → Int} {n : Nat} (h : ¬ okT s k) : TRS s k b n (-1) 0 (-1) := ⟨fun _ => ⟨rfl, rfl, rfl⟩, fun z => absurd z h⟩
theorem TRS_c {s k v v2 : Int} {b : Nat → Int} {n : Nat} {D : Nat → Nat → Int} (h : TXE (SF b n) (FX s b n) D v) (hk : okT s k) (hv : (D 35 2 = 0 ∧ v2 = v) ∨ (¬ D 35 2 = 0 ∧ v2 = -1)) : TRS s k b n v2 (D 35 2) (D 35 3) := by
  refine ⟨fun z => absurd hk z, fun _ => ⟨fun z => ?_, fun z => ?_⟩⟩
  · rcases h with ⟨_, a, b, c⟩ | ⟨a, _⟩
    · rcases hv with ⟨_, y⟩ | ⟨y, _⟩
      · exact ⟨by rw [y, c], a, b⟩
      · exact absurd a y
    · exact absurd z a
  · rcases h with ⟨a, _⟩ | ⟨a, b, c⟩
    · exact absurd a z
    · rcases hv with ⟨y, _⟩ | ⟨_, y⟩
      · exact absurd (b ▸ y) z
      · exact ⟨y, b, c⟩
theorem TRS_y {s k v e p : Int} {b : Nat → Int} {n : Nat} (h : ¬ okT s k) (hv : v = -1) (he : e = 0) (hp : p = -1) : TRS s k b n v e p := by subst hv; subst he; subst hp; exact TRS_x h
theorem TRS_t {s s' k v v2 e p : Int} {b : Nat → Int} {n : Nat} {D : Nat → Nat → Int} (h : TXE (SF b n) (gX (KF s' b n) (VF b n) s' 600 0 0) D v) (hs : s = s') (hk : okT s k) (he : e = D 35 2) (hp : p = D 35 3) (hv : (D 35 2 = 0 ∧ v2 = v) ∨ (¬ D 35 2 = 0 ∧ v2 = -1)) : TRS s k b n v2 e p := by
  subst hs; subst he; subst hp; exact TRS_c h hk hv
