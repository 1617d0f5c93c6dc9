/-! the class's run, a step at a time -/
def GVF (g : Nat → Int) (q : Nat) : Int := if q < 6 then g q else 0
theorem lst_f {g : Nat → Int} : ∀ (n a : Nat), lst g a (n + 1) = g a :: lst g (a + 1) n
  | 0, a => rfl
  | n + 1, a => by
    show lst g a (n + 1) ++ [g (a + (n + 1))] = g a :: (lst g (a + 1) n ++ [g (a + 1 + n)])
    rw [lst_f n a, show a + (n + 1) = a + 1 + n by omega]; rfl
def CIB (p gv : Nat → Int) (l : List Int) (top R : Int) : Prop := ∃ k : List Int, (k.length : Int) = top + 1 ∧ k.length ≤ 64 ∧ PL p k ∧ (cevB gv l k).headD 0 = R
theorem CIB_0 {p gv : Nat → Int} {l : List Int} {top : Int} (h : top = -1) : CIB p gv l top (RUNB gv l) := ⟨[], by rw [h]; rfl, by decide, trivial, rfl⟩
theorem CIB_e {p gv : Nat → Int} {l : List Int} {top R v : Int} (h : CIB p gv l top R) (hl : l = []) (hv : (0 ≤ top → v = p top.toNat) ∧ (¬ 0 ≤ top → v = 0)) : v = R := by
  obtain ⟨k, h1, h2, h3, h4⟩ := h
  subst hl
  match k, h1, h3, h4 with
  | [], h1, _, h4 =>
    have : ((0 : Nat) : Int) = top + 1 := h1
    rw [hv.2 (by omega)]; exact h4
  | a :: r, h1, h3, h4 =>
    rw [List.length_cons] at h1
    rw [hv.1 (by omega), show top.toNat = r.length by omega, h3.1]; exact h4
theorem CIB_p {p p' gv g : Nat → Int} {a ia a' n n' : Nat} {top R x : Int} (h : CIB p gv (lst g a n) top R) (hn : n = n' + 1) (ha : a' = a + 1) (hi : ia = a) (hop : 0 ≤ g ia ∨ g ia ≤ -11) (ht : top + 1 < 64) (hx : x = if 0 ≤ g ia then g ia else gv (-11 - g ia).toNat) (hp : ∀ j, ¬ j = (top + 1).toNat → p' j = p j) (hp' : p' (top + 1).toNat = x) : CIB p' gv (lst g a' n') (top + 1) R := by
  subst hi; subst ha; subst hn
  obtain ⟨k, h1, h2, h3, h4⟩ := h
  rw [lst_f] at h4
  have e : cstB gv (g ia) k = x :: k := by
    unfold cstB
    rw [if_pos hop, if_pos (by omega), hx]
    unfold cst
    by_cases c : 0 ≤ g ia
    · rw [if_pos c, if_pos c]
    · rw [if_neg c, if_neg c, if_pos (by omega)]
  refine ⟨x :: k, by rw [List.length_cons]; omega, by rw [List.length_cons]; omega, ⟨by rw [show k.length = (top + 1).toNat by omega]; exact hp', PL_con h3 (fun j hj => hp j (by omega))⟩, ?_⟩
  rw [← h4, ← e]; rfl
theorem CIB_s {p gv g : Nat → Int} {a ia a' n n' : Nat} {top R : Int} (h : CIB p gv (lst g a n) top R) (hn : n = n' + 1) (ha : a' = a + 1) (hi : ia = a) (hop : 0 ≤ g ia ∨ g ia ≤ -11) (ht : ¬ top + 1 < 64) : CIB p gv (lst g a' n') top R := by
  subst hi; subst ha; subst hn
  obtain ⟨k, h1, h2, h3, h4⟩ := h
  rw [lst_f] at h4
  refine ⟨k, h1, h2, h3, ?_⟩
  have e : cstB gv (g ia) k = k := by unfold cstB; rw [if_pos hop, if_neg (by omega)]
  rw [← h4]
  show _ = (cevB gv _ (cstB gv (g ia) k)).headD 0
  rw [e]
theorem CIB_n {p p' gv g : Nat → Int} {a ia a' n n' : Nat} {top R x : Int} (h : CIB p gv (lst g a n) top R) (hn : n = n' + 1) (ha : a' = a + 1) (hi : ia = a) (hop : g ia = -8) (ht : 0 ≤ top) (hx : x = wr (1 - p top.toNat)) (hp : ∀ j, ¬ j = top.toNat → p' j = p j) (hp' : p' top.toNat = x) : CIB p' gv (lst g a' n') top R := by
  subst hi; subst ha; subst hn
  obtain ⟨k, h1, h2, h3, h4⟩ := h
  rw [lst_f] at h4
  match k, h1, h2, h3, h4 with
  | [], h1, _, _, _ => have : ((0 : Nat) : Int) = top + 1 := h1; omega
  | b :: r, h1, h2, h3, h4 =>
    rw [List.length_cons] at h1 h2
    have hr : r.length = top.toNat := by omega
    have e : cstB gv (g ia) (b :: r) = x :: r := by
      unfold cstB cst
      rw [if_neg (by omega), if_neg (by omega), if_neg (by omega), if_pos hop, hx, ← hr, h3.1]; rfl
    refine ⟨x :: r, by rw [List.length_cons]; omega, by rw [List.length_cons]; omega, ⟨by rw [hr]; exact hp', PL_con h3.2 (fun j hj => hp j (by omega))⟩, ?_⟩
    rw [← h4, ← e]; rfl
theorem CIB_b {p p' gv g : Nat → Int} {a ia a' n n' : Nat} {top top' R x y : Int} (h : CIB p gv (lst g a n) top R) (hn : n = n' + 1) (ha : a' = a + 1) (hi : ia = a) (hop : (-10 ≤ g ia ∧ g ia ≤ -1) ∧ ¬ g ia = -8) (ht : 1 ≤ top) (et : top' = top - 1) (hy : y = wkd (g ia) (p (top - 1).toNat) (p top.toNat)) (hx : x = wr y) (hp : ∀ j, ¬ j = (top - 1).toNat → p' j = p j) (hp' : p' (top - 1).toNat = x) : CIB p' gv (lst g a' n') top' R := by
  subst hi; subst ha; subst hn; subst et
  obtain ⟨k, h1, h2, h3, h4⟩ := h
  rw [lst_f] at h4
  match k, h1, h2, h3, h4 with
  | [], h1, _, _, _ => have : ((0 : Nat) : Int) = top + 1 := h1; omega
  | [_], h1, _, _, _ => have : ((1 : Nat) : Int) = top + 1 := h1; omega
  | c :: b :: r, h1, h2, h3, h4 =>
    rw [List.length_cons, List.length_cons] at h1 h2
    have hr : r.length = (top - 1).toNat := by omega
    have hr1 : (b :: r).length = top.toNat := by rw [List.length_cons]; omega
    have e : cstB gv (g ia) (c :: b :: r) = x :: r := by
      rw [(cst_b hop).2, hx, hy, ← hr, ← hr1, h3.1, h3.2.1]
    refine ⟨x :: r, by rw [List.length_cons]; omega, by rw [List.length_cons]; omega, ⟨by rw [hr]; exact hp', PL_con h3.2.2 (fun j hj => hp j (by omega))⟩, ?_⟩
    rw [← h4, ← e]; rfl
/-- too few on the pile: nothing -/
theorem CIB_f {p gv g : Nat → Int} {a ia a' n n' : Nat} {top R : Int} (h : CIB p gv (lst g a n) top R) (hn : n = n' + 1) (ha : a' = a + 1) (hi : ia = a) (hop : -10 ≤ g ia ∧ g ia ≤ -1) (ht : top < 1 ∧ (g ia = -8 → top < 0)) : CIB p gv (lst g a' n') top R := by
  subst hi; subst ha; subst hn
  obtain ⟨k, h1, h2, h3, h4⟩ := h
  rw [lst_f] at h4
  refine ⟨k, h1, h2, h3, ?_⟩
  have e : cstB gv (g ia) k = k := by
    unfold cstB cst
    rw [if_neg (by omega), if_neg (by omega), if_neg (by omega)]
    match k, h1 with
    | [], _ => by_cases c : g ia = -8
               · rw [if_pos c]; rfl
               · rw [if_neg c]; rfl
    | [b], h1 =>
      have : ((1 : Nat) : Int) = top + 1 := h1
      rw [if_neg (fun z => by have := ht.2 z; omega)]; rfl
    | b :: c :: r, h1 => rw [List.length_cons, List.length_cons] at h1; omega
  rw [← h4]
  show _ = (cevB gv _ (cstB gv (g ia) k)).headD 0
  rw [e]
/-- the facts as the reference has them -/
def FAC (g : Nat → Int) (s : Nat) : Int := if 1 ≤ s ∧ s ≤ 6 then g (s - 1) else 0
theorem FAC_g {g : Nat → Int} : ∀ q : Nat, q < 6 → GVF g q = FAC g (q + 1) := fun q hq => by
  unfold GVF FAC; rw [if_pos hq, if_pos ⟨by omega, by omega⟩]; rfl
theorem evs_fa {fa fa' : Nat → Int} (h : ∀ s : Nat, 1 ≤ s → s ≤ 6 → fa' s = fa s) (s v : Int) (k : List Int) : evs fa' s v k = evs fa s v k := by
  unfold evs
  by_cases c : 0 ≤ s ∧ s ≤ 6
  · rw [if_pos c, if_pos c]
    by_cases z : s = 0
    · rw [if_pos z, if_pos z]
    · rw [if_neg z, if_neg z, h s.toNat (by omega) (by omega)]
  · rw [if_neg c, if_neg c]
theorem ev_fa {g fa fa' : Nat → Int} (h : ∀ s : Nat, 1 ≤ s → s ≤ 6 → fa' s = fa s) : ∀ (n i : Nat) (k : List Int), ev g fa' n i k = ev g fa n i k
  | 0, _, _ => rfl
  | n + 1, i, k => by rw [ev_s, ev_s, evs_fa h, ev_fa h n]
theorem CT_fa {f fa fa' : Nat → Int} (h : ∀ s : Nat, 1 ≤ s → s ≤ 6 → fa' s = fa s) {l b e : Int} : CT f fa' l b e = CT f fa l b e := by unfold CT; rw [ev_fa h]
theorem wgh_fa {f fa fa' : Nat → Int} (h : ∀ s : Nat, 1 ≤ s → s ≤ 6 → fa' s = fa s) {l rule : Int} : ∀ (n : Nat) (i : Int), wgh f fa' l rule n i = wgh f fa l rule n i
  | 0, _ => rfl
  | n + 1, i => by
    unfold wgh
    rw [wgh_fa h n, CT_fa h, CT_fa h]
theorem WH_fa {f fa fa' : Nat → Int} (h : ∀ s : Nat, 1 ≤ s → s ≤ 6 → fa' s = fa s) {l rule : Int} : WH f fa' l rule = WH f fa l rule := wgh_fa h _ _
theorem WS_fa {f fa fa' : Nat → Int} (h : ∀ s : Nat, 1 ≤ s → s ≤ 6 → fa' s = fa s) {l : Int} : ∀ n, WS f fa' l n = WS f fa l n
  | 0 => rfl
  | n + 1 => by unfold WS; rw [WS_fa h n, WH_fa h]
/-- the class's line, in its own words -/
theorem LWR_at {A4 A6 f : Nat → Int} {A5 : Nat → Int} (h : LWL A4 A5 A6 f) {k q : Int} (hk : 0 ≤ k ∧ k ≤ 3) (hq : 0 ≤ q ∧ q < f (974 + k).toNat) : A5 k.toNat = f (974 + k).toNat ∧ A4 ((((k * 16) + q) * 4)).toNat = f (978 + ((16 * k) + q)).toNat ∧ (0 ≤ A4 ((((k * 16) + q) * 4) + 1).toNat ∧ A4 ((((k * 16) + q) * 4) + 1).toNat ≤ A4 ((((k * 16) + q) * 4) + 2).toNat ∧ A4 ((((k * 16) + q) * 4) + 2).toNat ≤ A4 ((((k * 16) + q) * 4) + 3).toNat ∧ A4 ((((k * 16) + q) * 4) + 3).toNat ≤ 500) ∧ LWR A4 A6 f k.toNat q.toNat := by
  have z := h k.toNat (by omega)
  rw [show 974 + k.toNat = (974 + k).toNat by omega] at z
  have y := z.2 q.toNat (by omega)
  have y' := y
  obtain ⟨y1, y2, _⟩ := y'
  rw [show ((((k * 16) + q) * 4)).toNat = 64 * k.toNat + 4 * q.toNat by omega, show ((((k * 16) + q) * 4) + 1).toNat = 64 * k.toNat + 4 * q.toNat + 1 by omega, show ((((k * 16) + q) * 4) + 2).toNat = 64 * k.toNat + 4 * q.toNat + 2 by omega, show ((((k * 16) + q) * 4) + 3).toNat = 64 * k.toNat + 4 * q.toNat + 3 by omega, show (978 + ((16 * k) + q)).toNat = 978 + 16 * k.toNat + q.toNat by omega]
  exact ⟨z.1, y1, y2, y⟩
theorem LWR_E {A4 A5 A6 f g : Nat → Int} (h : LWL A4 A5 A6 f) (hM : MW f) {k q a m : Int} (hk : 0 ≤ k ∧ k ≤ 3) (hq : 0 ≤ q ∧ q < f (974 + k).toNat) (ea : a = A4 ((((k * 16) + q) * 4) + 1).toNat) (em : m = A4 ((((k * 16) + q) * 4) + 2).toNat) : RUNB (GVF g) (lst A6 (500 * k.toNat + a.toNat) (m - a).toNat) = CT f (FAC g) k (f (1042 + ((16 * k) + q)).toNat) (f (1106 + ((16 * k) + q)).toNat) := by
  obtain ⟨_, _, _, y⟩ := LWR_at h hk hq
  obtain ⟨_, _, y3, _, y5, y6⟩ := y
  have b := MW_l hM k q hk hq
  have s1 := MW_s1 hM k q hk hq
  rw [show ((((k * 16) + q) * 4) + 1).toNat = 64 * k.toNat + 4 * q.toNat + 1 by omega] at ea
  rw [show ((((k * 16) + q) * 4) + 2).toNat = 64 * k.toNat + 4 * q.toNat + 2 by omega] at em
  rw [← ea, ← em] at y3
  rw [show 1042 + 16 * k.toNat + q.toNat = (1042 + ((16 * k) + q)).toNat by omega, show 1106 + 16 * k.toNat + q.toNat = (1106 + ((16 * k) + q)).toNat by omega] at y3 y5
  rw [show 1042 + 16 * k.toNat + q.toNat = (1042 + ((16 * k) + q)).toNat by omega, show 1170 + 16 * k.toNat + q.toNat = (1170 + ((16 * k) + q)).toNat by omega] at y6
  refine RUN_CT FAC_g y3 ?_ b.1 s1 (fun j p q => y6 j p (by omega))
  rw [y3]; exact (y5 _).1
theorem LWR_B {A4 A5 A6 f g : Nat → Int} (h : LWL A4 A5 A6 f) (hM : MW f) {k q m e : Int} (hk : 0 ≤ k ∧ k ≤ 3) (hq : 0 ≤ q ∧ q < f (974 + k).toNat) (em : m = A4 ((((k * 16) + q) * 4) + 2).toNat) (ee : e = A4 ((((k * 16) + q) * 4) + 3).toNat) : (m = e → ¬ f (1106 + ((16 * k) + q)).toNat < f (1170 + ((16 * k) + q)).toNat) ∧ (¬ m = e → f (1106 + ((16 * k) + q)).toNat < f (1170 + ((16 * k) + q)).toNat ∧ RUNB (GVF g) (lst A6 (500 * k.toNat + m.toNat) (e - m).toNat) = CT f (FAC g) k (f (1106 + ((16 * k) + q)).toNat) (f (1170 + ((16 * k) + q)).toNat)) := by
  obtain ⟨_, _, y2, y⟩ := LWR_at h hk hq
  obtain ⟨_, _, _, y4, y5, y6⟩ := y
  have b := MW_l hM k q hk hq
  rw [← em, ← ee] at y2
  rw [show ((((k * 16) + q) * 4) + 2).toNat = 64 * k.toNat + 4 * q.toNat + 2 by omega] at em
  rw [show ((((k * 16) + q) * 4) + 3).toNat = 64 * k.toNat + 4 * q.toNat + 3 by omega] at ee
  rw [← ee, ← em] at y4
  rw [show 1106 + 16 * k.toNat + q.toNat = (1106 + ((16 * k) + q)).toNat by omega, show 1170 + 16 * k.toNat + q.toNat = (1170 + ((16 * k) + q)).toNat by omega] at y4 y5
  rw [show 1042 + 16 * k.toNat + q.toNat = (1042 + ((16 * k) + q)).toNat by omega, show 1170 + 16 * k.toNat + q.toNat = (1170 + ((16 * k) + q)).toNat by omega] at y6
  refine ⟨fun c => ?_, fun c => ?_⟩
  · subst c
    rw [show (m - m).toNat = 0 by omega] at y4
    have n0 := exl_n (show exl (SG f k.toNat) _ _ = [] from y4.symm)
    omega
  · have lt : f (1106 + ((16 * k) + q)).toNat < f (1170 + ((16 * k) + q)).toNat := by
      by_cases z : f (1106 + ((16 * k) + q)).toNat < f (1170 + ((16 * k) + q)).toNat
      · exact z
      · exfalso
        rw [show (f (1170 + ((16 * k) + q)).toNat - f (1106 + ((16 * k) + q)).toNat).toNat = 0 by omega] at y4
        have l := congrArg List.length y4
        rw [lst_l] at l
        have : (e - m).toNat = 0 := l
        omega
    refine ⟨lt, RUN_CT FAC_g y4 ?_ (by omega) (MW_s2 hM k q hk hq lt) (fun j p q => y6 j (by omega) q)⟩
    rw [y4]; exact (y5 _).2 lt
/-! CHILDREN alike; the facts by which a CHILD's LAW is weighed -/
def CHL (A f : Nat → Int) : Prop := ∀ c : Nat, (c : Int) < f 2 → A (4 * c) = f (5380 + 4 * c) ∧ A (4 * c + 1) = f (5380 + 4 * c + 1) ∧ A (4 * c + 2) = f (5380 + 4 * c + 2) ∧ A (4 * c + 3) = f (5380 + 4 * c + 3)
theorem CHL_k {A A1 f f1 : Nat → Int} (h : CHL A f) (hM : MW f) (hA : ∀ j : Nat, j < 160 → A1 j = A j) (hn : f1 2 = f 2) (h2 : ∀ j : Nat, 5380 ≤ j → j < 5540 → f1 j = f j) : CHL A1 f1 := by
  have b := hM.1.2.1
  intro c hc
  rw [hn] at hc
  have z := h c hc
  rw [hA _ (by omega), hA _ (by omega), hA _ (by omega), hA _ (by omega), h2 _ (by omega) (by omega), h2 _ (by omega) (by omega), h2 _ (by omega) (by omega), h2 _ (by omega) (by omega)]
  exact z
theorem CHL_0 {A f : Nat → Int} (h : f 2 = 0) : CHL A f := fun q hq => by omega
theorem CHL_a {A A1 f f1 : Nat → Int} {n a b c d : Int} (h : CHL A f) (en : n = f 2) (h0 : 0 ≤ n) (kp : ∀ j : Nat, (j : Int) < 4 * n → A1 j = A j) (e0 : A1 (((n) * 4) + 0).toNat = a) (e1 : A1 (((n) * 4) + 1).toNat = b) (e2 : A1 (((n) * 4) + 2).toNat = c) (e3 : A1 (((n) * 4) + 3).toNat = d) (f0 : f1 2 = f 2 + 1) (fk : ∀ j : Nat, ¬ j = 2 → (j < 5380 + 4 * (f 2).toNat ∨ 5384 + 4 * (f 2).toNat ≤ j) → f1 j = f j) (g0 : f1 (5380 + 4 * (f 2).toNat + 0) = a) (g1 : f1 (5380 + 4 * (f 2).toNat + 1) = b) (g2 : f1 (5380 + 4 * (f 2).toNat + 2) = c) (g3 : f1 (5380 + 4 * (f 2).toNat + 3) = d) : CHL A1 f1 := by
  intro q hq
  by_cases e : (q : Int) = n
  · have eq : q = (f 2).toNat := by omega
    rw [← eq] at g0 g1 g2 g3
    rw [show 5380 + 4 * q = 5380 + 4 * q + 0 from rfl, g0, g1, g2, g3]
    rw [show (((n) * 4) + 0).toNat = 4 * q by omega] at e0
    rw [show (((n) * 4) + 1).toNat = 4 * q + 1 by omega] at e1
    rw [show (((n) * 4) + 2).toNat = 4 * q + 2 by omega] at e2
    rw [show (((n) * 4) + 3).toNat = 4 * q + 3 by omega] at e3
    exact ⟨e0, e1, e2, e3⟩
  · have z := h q (by omega)
    rw [kp _ (by omega), kp _ (by omega), kp _ (by omega), kp _ (by omega), fk _ (by omega) (by omega), fk _ (by omega) (by omega), fk _ (by omega) (by omega), fk _ (by omega) (by omega)]
    exact z
/-- months 1, words 2, how 3, moves 4, sort 5, picture 6 -/
def FQ (f : Nat → Int) (c q how : Int) (s : Nat) : Int := if s = 1 then f (5380 + 4 * c.toNat + 1) else if s = 2 then f (5380 + 4 * c.toNat + 2) else if s = 3 then how else if s = 4 then SAID f q.toNat 10 else if s = 5 then f (5380 + 4 * c.toNat + 3) else f (5320 + 5 * q.toNat + 1)
/-- all that a class's weighing reads is alike -/
def ALK (D : Nat → Nat → Int) (F : Nat → Int) : Prop := LWL (D 4) (D 5) (D 6) F ∧ QRL (D 8) F ∧ SDL (D 9) F ∧ CHL (D 11) F ∧ D 7 3 = F 1 ∧ D 10 3 = F 2
theorem ALK_fr {S : List Nat} {D D1 : Nat → Nat → Int} {F : Nat → Int} (h : ALK D F) (hF : Fr S D D1) (hs : ∀ k, 4 ≤ k → k < 12 → k ∉ S) : ALK D1 F := by
  unfold ALK at h ⊢
  rw [funext (hF 4 (hs 4 (by decide) (by decide))), funext (hF 5 (hs 5 (by decide) (by decide))), funext (hF 6 (hs 6 (by decide) (by decide))), funext (hF 8 (hs 8 (by decide) (by decide))), funext (hF 9 (hs 9 (by decide) (by decide))), funext (hF 11 (hs 11 (by decide) (by decide))), hF 7 (hs 7 (by decide) (by decide)), hF 10 (hs 10 (by decide) (by decide))]
  exact h
theorem FQ_FAC {f g : Nat → Int} {c q how : Int} (h1 : g 0 = f (5380 + 4 * c.toNat + 1)) (h2 : g 1 = f (5380 + 4 * c.toNat + 2)) (h3 : g 2 = how) (h4 : g 3 = SAID f q.toNat 10) (h5 : g 4 = f (5380 + 4 * c.toNat + 3)) (h6 : g 5 = f (5320 + 5 * q.toNat + 1)) : ∀ s : Nat, 1 ≤ s → s ≤ 6 → FAC g s = FQ f c q how s := by
  intro s a b
  unfold FAC FQ
  rw [if_pos ⟨a, b⟩]
  have c : s = 1 ∨ s = 2 ∨ s = 3 ∨ s = 4 ∨ s = 5 ∨ s = 6 := by omega
  rcases c with c | c | c | c | c | c <;> subst c
  · exact h1
  · exact h2
  · exact h3
  · exact h4
  · exact h5
  · exact h6
theorem FQ_R {f g : Nat → Int} {c q how : Int} (h1 : g 1 = f (5380 + 4 * c.toNat + 1)) (h2 : g 2 = f (5380 + 4 * c.toNat + 2)) (h3 : g 3 = how) (h4 : g 4 = SAID f q.toNat 10) (h5 : g 5 = f (5380 + 4 * c.toNat + 3)) (h6 : g 6 = f (5320 + 5 * q.toNat + 1)) : ∀ s : Nat, 1 ≤ s → s ≤ 6 → g s = FQ f c q how s := by
  intro s a b
  unfold FQ
  have c : s = 1 ∨ s = 2 ∨ s = 3 ∨ s = 4 ∨ s = 5 ∨ s = 6 := by omega
  rcases c with c | c | c | c | c | c <;> subst c
  · exact h1
  · exact h2
  · exact h3
  · exact h4
  · exact h5
  · exact h6
/-- the weights that were made: g the class's cell, a their sum -/
def WGT (g : Nat → Int) (a : Int) (F fa : Nat → Int) (l : Int) : Prop := (∀ r : Nat, r < 8 → g r = WH F fa l (r : Int)) ∧ g 8 = WH F fa l 8 ∧ a = WS F fa l 8
theorem WGT_fa {g : Nat → Int} {a : Int} {F fa fa' : Nat → Int} {l : Int} (h : WGT g a F fa l) (e : ∀ s : Nat, 1 ≤ s → s ≤ 6 → fa s = fa' s) : WGT g a F fa' l := by
  obtain ⟨h1, h2, h3⟩ := h
  exact ⟨fun r hr => by rw [h1 r hr, WH_fa e], by rw [h2, WH_fa e], by rw [h3, WS_fa e]⟩
/-- CHANCE, from what stands for it -/
def CHP (all pull so a s0 : Int) : Int := (wr (((100 - pull) * so + (if a = s0 then pull * all else 0)) * 10)).tdiv (wr all)
def SOF (S w : Nat → Int) (a : Int) : Nat → Int
  | 0 => 0
  | r + 1 => SOF S w a r + (if S r = a then w r else 0)
/-- CHANCE of an answer a by LAW l, of CHILD c, to QUESTION q asked how -/
def CHN (f : Nat → Int) (l c q how a : Int) : Int :=
  if WS f (FQ f c q how) l 8 = 0 then CHP 4 (WH f (FQ f c q how) l 8) (if a = -1 then 0 else 1) a (SAID f q.toNat 0)
  else CHP (WS f (FQ f c q how) l 8) (WH f (FQ f c q how) l 8) (SOF (fun r => SAID f q.toNat (r : Int)) (fun r => WH f (FQ f c q how) l (r : Int)) a 8) a (SAID f q.toNat 0)
