/-! what lies outside, and the law's entry -/
def am_XX (L : Nat) (xs : Nat → Int32) (sio : Option Nat) : am_X :=
  (fun r => if r = 3000 then some (0, L, fun j => (xs j).toInt) else if r = 3001 then some (0, 4, fun j => ([0, 100, 300, 600] : List Int).getD j 0) else if 2000 ≤ r ∧ r < 2024 then some (1, am_Sln.getD (r - 2000) 0, fun j => (am_Sby.getD (r - 2000) []).getD j 0) else none,
   fun r k => if 1000 ≤ r ∧ r < 1024 then (if k = 0 then some (.inr (.inr (some (2000 + (r - 1000))))) else some (.inl 0)) else none,
   fun k => match k with
    | 0 => some (.inl 1)
    | 1 => some (.inr (.inr sio))
    | 2 => some (.inr (.inr (some 3001)))
    | _ => none)
theorem am_XX_ok (L : Nat) (xs : Nat → Int32) (sio : Option Nat) (hs : ∀ k, sio = some k → 1000 ≤ k) : am_HX (am_XX L xs sio) := by
  refine ⟨?_, ?_, ?_⟩
  · rintro r ⟨q, hq⟩
    simp only [am_XX] at hq
    split at hq
    · omega
    · split at hq
      · omega
      · split at hq
        · omega
        · cases hq
  · intro r k v h
    simp only [am_XX] at h
    split at h
    · rename_i hr
      split at h
      · cases h
        refine ⟨hr.1, ?_⟩
        simp [am_vld]
        omega
      · cases h
        exact ⟨hr.1, rfl⟩
    · cases h
  · intro k v h
    simp only [am_XX] at h
    split at h
    · cases h; rfl
    · cases h
      cases sio with
      | none => rfl
      | some q => simp [am_vld]; exact hs q rfl
    · cases h; rfl
    · cases h
def am_tm (i : Nat) : Term := Term.string (am_S.getD i ("", 0, "")).1 (am_S.getD i ("", 0, "")).2.1
def am_Sb32 : List (List Int32) := am_Sby.map (fun l => l.map Int32.ofInt)
theorem am_Sb_eq (i j : Nat) : ((am_Sb32.getD i []).getD j 0) = Int32.ofInt ((am_Sby.getD i []).getD j 0) := by
  unfold am_Sb32
  rw [List.getD_eq_getElem?_getD, List.getD_eq_getElem?_getD, List.getD_eq_getElem?_getD, List.getD_eq_getElem?_getD, List.getElem?_map]
  cases am_Sby[i]? with
  | none => rfl
  | some l =>
    show (l.map Int32.ofInt)[j]?.getD 0 = Int32.ofInt (l[j]?.getD 0)
    rw [List.getElem?_map]
    cases l[j]? <;> rfl
theorem am_atp {f : Nat → Jvm.Cond} {g : Nat → Nat} {l : List Jvm.Cond} {n : Nat} (h : (List.range n).map (fun i => some (f i)) = (List.range n).map (fun i => l[g i]?)) : ∀ i, i < n → f i ∈ l := fun i hi =>
  List.mem_of_getElem? (List.map_inj_left.1 h i (List.mem_range.2 hi)).symm
set_option maxRecDepth 100000 in
theorem am_s_ex : ∀ i, i < 24 → Jvm.Cond.exactly (am_tm i) "java/lang/String" ∈ flatC (Jvm.Cond.and given_1 narrow_1) := am_atp (f := fun i => Jvm.Cond.exactly (am_tm i) "java/lang/String") (g := fun i => ([16, 65, 132, 148, 159, 172, 184, 198, 213, 229, 246, 264, 283, 303, 324, 346, 367, 390, 414, 442, 470, 497, 527, 557] : List Nat).getD i 0) (by decide +kernel)
set_option maxRecDepth 100000 in
theorem am_s_co : ∀ i, i < 24 → Jvm.Cond.eq (.field (am_tm i) "java/lang/String" "coder" "B") (.int 0) ∈ flatC (Jvm.Cond.and given_1 narrow_1) := am_atp (f := fun i => Jvm.Cond.eq (.field (am_tm i) "java/lang/String" "coder" "B") (.int 0)) (g := fun i => ([17, 66, 133, 149, 160, 173, 185, 199, 214, 230, 247, 265, 284, 304, 325, 347, 368, 391, 415, 443, 471, 498, 528, 558] : List Nat).getD i 0) (by decide +kernel)
set_option maxRecDepth 100000 in
theorem am_s_ar : ∀ i, i < 24 → Jvm.Cond.arrayOf (.field (am_tm i) "java/lang/String" "value" "[B") .byte ∈ flatC (Jvm.Cond.and given_1 narrow_1) := am_atp (f := fun i => Jvm.Cond.arrayOf (.field (am_tm i) "java/lang/String" "value" "[B") .byte) (g := fun i => ([18, 67, 134, 150, 161, 174, 186, 200, 215, 231, 248, 266, 285, 305, 326, 348, 369, 392, 416, 444, 472, 499, 529, 559] : List Nat).getD i 0) (by decide +kernel)
set_option maxRecDepth 100000 in
theorem am_s_le : ∀ i, i < 24 → Jvm.Cond.eq (.length (.field (am_tm i) "java/lang/String" "value" "[B")) (.int (Int32.ofNat (am_Sln.getD i 0))) ∈ flatC (Jvm.Cond.and given_1 narrow_1) := am_atp (f := fun i => Jvm.Cond.eq (.length (.field (am_tm i) "java/lang/String" "value" "[B")) (.int (Int32.ofNat (am_Sln.getD i 0)))) (g := fun i => ([19, 68, 135, 151, 162, 175, 187, 201, 216, 232, 249, 267, 286, 306, 327, 349, 370, 393, 417, 445, 473, 500, 530, 560] : List Nat).getD i 0) (by decide +kernel)
def am_ec (i j : Nat) : Jvm.Cond := Jvm.Cond.eq (.elem (.field (am_tm i) "java/lang/String" "value" "[B") (.int (Int32.ofNat j))) (.int ((am_Sb32.getD i []).getD j 0))
set_option maxRecDepth 100000 in
theorem am_se0 : ((flatC narrow_1).drop 18).take 45 = (List.range 45).map (am_ec 0) := by decide +kernel
set_option maxRecDepth 100000 in
theorem am_se1 : ((flatC narrow_1).drop 67).take 62 = (List.range 62).map (am_ec 1) := by decide +kernel
set_option maxRecDepth 100000 in
theorem am_se2 : ((flatC narrow_1).drop 134).take 10 = (List.range 10).map (am_ec 2) := by decide +kernel
set_option maxRecDepth 100000 in
theorem am_se3 : ((flatC narrow_1).drop 150).take 4 = (List.range 4).map (am_ec 3) := by decide +kernel
set_option maxRecDepth 100000 in
theorem am_se4 : ((flatC narrow_1).drop 161).take 5 = (List.range 5).map (am_ec 4) := by decide +kernel
set_option maxRecDepth 100000 in
theorem am_se5 : ((flatC narrow_1).drop 174).take 3 = (List.range 3).map (am_ec 5) := by decide +kernel
set_option maxRecDepth 100000 in
theorem am_se6 : ((flatC narrow_1).drop 186).take 4 = (List.range 4).map (am_ec 6) := by decide +kernel
set_option maxRecDepth 100000 in
theorem am_se7 : ((flatC narrow_1).drop 200).take 4 = (List.range 4).map (am_ec 7) := by decide +kernel
set_option maxRecDepth 100000 in
theorem am_se8 : ((flatC narrow_1).drop 215).take 4 = (List.range 4).map (am_ec 8) := by decide +kernel
set_option maxRecDepth 100000 in
theorem am_se9 : ((flatC narrow_1).drop 231).take 4 = (List.range 4).map (am_ec 9) := by decide +kernel
set_option maxRecDepth 100000 in
theorem am_se10 : ((flatC narrow_1).drop 248).take 4 = (List.range 4).map (am_ec 10) := by decide +kernel
set_option maxRecDepth 100000 in
theorem am_se11 : ((flatC narrow_1).drop 266).take 4 = (List.range 4).map (am_ec 11) := by decide +kernel
set_option maxRecDepth 100000 in
theorem am_se12 : ((flatC narrow_1).drop 285).take 4 = (List.range 4).map (am_ec 12) := by decide +kernel
set_option maxRecDepth 100000 in
theorem am_se13 : ((flatC narrow_1).drop 305).take 4 = (List.range 4).map (am_ec 13) := by decide +kernel
set_option maxRecDepth 100000 in
theorem am_se14 : ((flatC narrow_1).drop 326).take 4 = (List.range 4).map (am_ec 14) := by decide +kernel
set_option maxRecDepth 100000 in
theorem am_se15 : ((flatC narrow_1).drop 348).take 2 = (List.range 2).map (am_ec 15) := by decide +kernel
set_option maxRecDepth 100000 in
theorem am_se16 : ((flatC narrow_1).drop 369).take 3 = (List.range 3).map (am_ec 16) := by decide +kernel
set_option maxRecDepth 100000 in
theorem am_se17 : ((flatC narrow_1).drop 392).take 3 = (List.range 3).map (am_ec 17) := by decide +kernel
set_option maxRecDepth 100000 in
theorem am_se18 : ((flatC narrow_1).drop 416).take 6 = (List.range 6).map (am_ec 18) := by decide +kernel
set_option maxRecDepth 100000 in
theorem am_se19 : ((flatC narrow_1).drop 444).take 5 = (List.range 5).map (am_ec 19) := by decide +kernel
set_option maxRecDepth 100000 in
theorem am_se20 : ((flatC narrow_1).drop 472).take 3 = (List.range 3).map (am_ec 20) := by decide +kernel
set_option maxRecDepth 100000 in
theorem am_se21 : ((flatC narrow_1).drop 499).take 5 = (List.range 5).map (am_ec 21) := by decide +kernel
set_option maxRecDepth 100000 in
theorem am_se22 : ((flatC narrow_1).drop 529).take 4 = (List.range 4).map (am_ec 22) := by decide +kernel
set_option maxRecDepth 100000 in
theorem am_se23 : ((flatC narrow_1).drop 559).take 7 = (List.range 7).map (am_ec 23) := by decide +kernel
theorem am_se_mem {i p n : Nat} (h : ((flatC narrow_1).drop p).take n = (List.range n).map (am_ec i)) {j : Nat} (hj : j < n) : am_ec i j ∈ flatC (Jvm.Cond.and given_1 narrow_1) := by
  have h1 : am_ec i j ∈ (List.range n).map (am_ec i) := List.mem_map.mpr ⟨j, List.mem_range.mpr hj, rfl⟩
  rw [← h] at h1
  exact List.mem_append_right _ (List.mem_of_mem_drop (List.mem_of_mem_take h1))
theorem am_s_el : ∀ i, i < 24 → ∀ j, j < am_Sln.getD i 0 → am_ec i j ∈ flatC (Jvm.Cond.and given_1 narrow_1) := by
  intro i hi j hj
  match i, hi, hj with
  | 0, _, hj => exact am_se_mem am_se0 hj
  | 1, _, hj => exact am_se_mem am_se1 hj
  | 2, _, hj => exact am_se_mem am_se2 hj
  | 3, _, hj => exact am_se_mem am_se3 hj
  | 4, _, hj => exact am_se_mem am_se4 hj
  | 5, _, hj => exact am_se_mem am_se5 hj
  | 6, _, hj => exact am_se_mem am_se6 hj
  | 7, _, hj => exact am_se_mem am_se7 hj
  | 8, _, hj => exact am_se_mem am_se8 hj
  | 9, _, hj => exact am_se_mem am_se9 hj
  | 10, _, hj => exact am_se_mem am_se10 hj
  | 11, _, hj => exact am_se_mem am_se11 hj
  | 12, _, hj => exact am_se_mem am_se12 hj
  | 13, _, hj => exact am_se_mem am_se13 hj
  | 14, _, hj => exact am_se_mem am_se14 hj
  | 15, _, hj => exact am_se_mem am_se15 hj
  | 16, _, hj => exact am_se_mem am_se16 hj
  | 17, _, hj => exact am_se_mem am_se17 hj
  | 18, _, hj => exact am_se_mem am_se18 hj
  | 19, _, hj => exact am_se_mem am_se19 hj
  | 20, _, hj => exact am_se_mem am_se20 hj
  | 21, _, hj => exact am_se_mem am_se21 hj
  | 22, _, hj => exact am_se_mem am_se22 hj
  | 23, _, hj => exact am_se_mem am_se23 hj
theorem am_s_ln : ∀ i, i < 24 → am_Sln.getD i 0 < 2 ^ 31 := by decide +kernel
set_option maxRecDepth 100000 in
theorem am_s_ref : ∀ q ∈ am_sites, q.2.2 < 24 ∧ am_tm q.2.2 = Term.string q.1 q.2.1 ∧ Jvm.Cond.stringRef q.1 q.2.1 (am_S.getD q.2.2 ("", 0, "")).2.2 ∈ lw_tbl := by decide +kernel
set_option maxRecDepth 100000 in
theorem am_s_nst : ∀ q ∈ am_nests, Jvm.Cond.methodLinkNest q.1 q.2.1 q.2.2.1 q.2.2.2 ∈ lw_tbl := by decide +kernel
set_option maxRecDepth 100000 in
theorem am_st_words : (Jvm.Cond.laysStatic "java/lang/String" "COMPACT_STRINGS" "Z" ∈ lw_tbl ∧ Jvm.Cond.initialized "java/lang/String" ∈ lw_tbl ∧ Jvm.Cond.laysStatic "jdk/internal/util/Preconditions" "SIOOBE_FORMATTER" "Ljava/util/function/BiFunction;" ∈ lw_tbl ∧ Jvm.Cond.initialized "jdk/internal/util/Preconditions" ∈ lw_tbl ∧ Jvm.Cond.laysStatic "WhereShe" "LEAST_SUM" "[I" ∈ lw_tbl ∧ Jvm.Cond.initialized "WhereShe" ∈ lw_tbl) ∧ (Jvm.Cond.arrayClass .int ∈ lw_tbl ∧ Jvm.Cond.arrayClass .byte ∈ lw_tbl ∧ Jvm.Cond.arrayClass .long ∈ lw_tbl ∧ Jvm.Cond.arrayClass .boolean ∈ lw_tbl) ∧ ∀ q ∈ vwCl, Jvm.Cond.instantiable q.1 q.2.2 ∈ lw_tbl := by decide +kernel
set_option maxRecDepth 100000 in
theorem am_st_vals : Jvm.Cond.eq (.static "java/lang/String" "COMPACT_STRINGS" "Z") (.int 1) ∈ flatC (Jvm.Cond.and given_1 narrow_1) ∧ Jvm.Cond.isRef (.static "jdk/internal/util/Preconditions" "SIOOBE_FORMATTER" "Ljava/util/function/BiFunction;") ∈ flatC (Jvm.Cond.and given_1 narrow_1) ∧ Jvm.Cond.arrayOf (.static "WhereShe" "LEAST_SUM" "[I") .int ∈ flatC (Jvm.Cond.and given_1 narrow_1) ∧ Jvm.Cond.eq (.length (.static "WhereShe" "LEAST_SUM" "[I")) (.int 4) ∈ flatC (Jvm.Cond.and given_1 narrow_1) ∧ ∀ j, j < 4 → Jvm.Cond.eq (.elem (.static "WhereShe" "LEAST_SUM" "[I") (.int (Int32.ofNat j))) (.int (Int32.ofInt (([0, 100, 300, 600] : List Int).getD j 0))) ∈ flatC (Jvm.Cond.and given_1 narrow_1) := by decide +kernel
