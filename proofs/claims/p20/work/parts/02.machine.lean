/-! THE SMALL MACHINE: values, worlds, one instruction, a run. A reference is a number: below 1000 a cell of the world, from 1000 on what lies outside (texts, their bytes, the script, a static row). -/
abbrev AV : Type := Int ⊕ (Int ⊕ Option Nat)
abbrev am_Sh : Type := (Nat × Nat) ⊕ (Nat × List (Option (Option Nat)))
abbrev am_W : Type := List am_Sh × (Nat → Nat → Int)
abbrev am_L : Type := List (Option AV)
abbrev am_I : Type := Instr × Nat × List Nat × Int
/-- what lies outside: arrays (sort, length, what they hold), fields, statics -/
abbrev am_X : Type := (Nat → Option (Nat × Nat × (Nat → Int))) × (Nat → Nat → Option AV) × (Nat → Option AV)
/-- a method: its code, how many it takes, its locals, the sort of its answer (0 none, 1 int, 2 boolean, 3 long, 4 char, 5 byte) -/
abbrev am_M : Type := List (Nat × am_I) × Nat × Nat × Nat
def wr (x : Int) : Int := (x + 2147483648) % 4294967296 - 2147483648
def wl (x : Int) : Int := (x + 9223372036854775808) % 18446744073709551616 - 9223372036854775808
def u2 (dt : Nat → Nat → Int) (k j : Nat) (x : Int) : Nat → Nat → Int := fun a b => if a = k ∧ b = j then x else dt a b
def am_z (dt : Nat → Nat → Int) (k : Nat) : Nat → Nat → Int := fun a b => if a = k then 0 else dt a b
def am_cp (dt : Nat → Nat → Int) (r0 r1 sp dp n : Nat) : Nat → Nat → Int := fun a b => if a = r1 ∧ (dp ≤ b ∧ b < dp + n) then dt r0 (sp + (b - dp)) else dt a b
def am_and (a b : Int) : Int := (Int32.ofInt a &&& Int32.ofInt b).toInt
def am_or (a b : Int) : Int := (Int32.ofInt a ||| Int32.ofInt b).toInt
def am_xor (a b : Int) : Int := (Int32.ofInt a ^^^ Int32.ofInt b).toInt
def am_shl (a b : Int) : Int := (Int32.ofInt a <<< (Int32.ofInt b &&& 31)).toInt
def am_shr (a b : Int) : Int := (Int32.ofInt a >>> (Int32.ofInt b &&& 31)).toInt
def am_ushr (a b : Int) : Int := ((Int32.ofInt a).toUInt32 >>> ((Int32.ofInt b).toUInt32 &&& Int32.toUInt32 31)).toInt32.toInt
def am_lshr (a b : Int) : Int := (Int64.ofInt a >>> ((Int32.ofInt b).toInt64 &&& 63)).toInt
def am_i2b (x : Int) : Int := (Int32.ofInt x).toInt8.toInt32.toInt
def am_i2c (x : Int) : Int := ((Int32.ofInt x).toUInt32 % 65536).toInt32.toInt
def am_ld (L : am_L) (i : Nat) : Option AV := L.getD i none
/-- a local of one word is set: a long that began one place before it is gone -/
def am_st (L : am_L) (i : Nat) (v : AV) : am_L := match i with
  | 0 => L.set 0 (some v)
  | j + 1 => match L.getD j none with
    | some (.inr (.inl _)) => (L.set j none).set (j + 1) (some v)
    | _ => L.set (j + 1) (some v)
def am_st2 (L : am_L) (i : Nat) (v : AV) : am_L := (am_st L i v).set (i + 1) none
def am_cat (v : AV) : Nat := match v with
  | .inr (.inl _) => 2
  | _ => 1
def am_arw (w : am_W) (r : Nat) : Option (Nat × Nat) := match w.1[r]? with
  | some (.inl (ty, n)) => bif Nat.blt n 2147483648 then some (ty, n) else none
  | _ => none
def am_arr (X : am_X) (w : am_W) (r : Nat) : Option (Nat × Nat × (Nat → Int)) := match w.1[r]? with
  | some (.inl (ty, n)) => bif Nat.blt n 2147483648 then some (ty, n, w.2 r) else none
  | some (.inr _) => none
  | none => match X.1 r with
    | some (ty, n, f) => bif Nat.blt n 2147483648 then some (ty, n, f) else none
    | none => none
def am_cmp (c : Jvm.ClassFile.Cond) (x y : Int) : Bool := match c with
  | .eq => decide (x = y)
  | .ne => decide (¬ x = y)
  | .lt => decide (x < y)
  | .ge => decide (y ≤ x)
  | .gt => decide (y < x)
  | .le => decide (x ≤ y)
/-- an instruction that neither jumps nor calls nor makes a cell -/
def am_smp (X : am_X) (i : Instr) (tg : List Nat) (cv : Int) (L : am_L) (st : List AV) (w : am_W) : Option (am_L × List AV × am_W) := match i with
  | .iconst _ => some (L, .inl cv :: st, w)
  | .bipush _ => some (L, .inl cv :: st, w)
  | .sipush _ => some (L, .inl cv :: st, w)
  | .lconst _ => some (L, .inr (.inl cv) :: st, w)
  | .ldc2_w _ => some (L, .inr (.inl cv) :: st, w)
  | .ldc_w _ => some (L, .inl cv :: st, w)
  | .ldc _ => match tg with
    | [_] => some (L, .inl cv :: st, w)
    | [_, k] => some (L, .inr (.inr (some (1000 + k))) :: st, w)
    | _ => none
  | .iload _ => match am_ld L (tg.headD 0) with
    | some (.inl x) => some (L, .inl x :: st, w)
    | _ => none
  | .iload_n _ => match am_ld L (tg.headD 0) with
    | some (.inl x) => some (L, .inl x :: st, w)
    | _ => none
  | .lload _ => match am_ld L (tg.headD 0) with
    | some (.inr (.inl x)) => some (L, .inr (.inl x) :: st, w)
    | _ => none
  | .lload_n _ => match am_ld L (tg.headD 0) with
    | some (.inr (.inl x)) => some (L, .inr (.inl x) :: st, w)
    | _ => none
  | .aload _ => match am_ld L (tg.headD 0) with
    | some (.inr (.inr (some x))) => some (L, .inr (.inr (some x)) :: st, w)
    | _ => none
  | .aload_n _ => match am_ld L (tg.headD 0) with
    | some (.inr (.inr (some x))) => some (L, .inr (.inr (some x)) :: st, w)
    | _ => none
  | .istore _ => match st with
    | .inl x :: r => bif Nat.blt (tg.headD 0) L.length then some (am_st L (tg.headD 0) (.inl x), r, w) else none
    | _ => none
  | .istore_n _ => match st with
    | .inl x :: r => bif Nat.blt (tg.headD 0) L.length then some (am_st L (tg.headD 0) (.inl x), r, w) else none
    | _ => none
  | .astore _ => match st with
    | .inr (.inr (some x)) :: r => bif Nat.blt (tg.headD 0) L.length then some (am_st L (tg.headD 0) (.inr (.inr (some x))), r, w) else none
    | _ => none
  | .astore_n _ => match st with
    | .inr (.inr (some x)) :: r => bif Nat.blt (tg.headD 0) L.length then some (am_st L (tg.headD 0) (.inr (.inr (some x))), r, w) else none
    | _ => none
  | .lstore _ => match st with
    | .inr (.inl x) :: r => bif Nat.blt (tg.headD 0 + 1) L.length then some (am_st2 L (tg.headD 0) (.inr (.inl x)), r, w) else none
    | _ => none
  | .lstore_n _ => match st with
    | .inr (.inl x) :: r => bif Nat.blt (tg.headD 0 + 1) L.length then some (am_st2 L (tg.headD 0) (.inr (.inl x)), r, w) else none
    | _ => none
  | .iinc _ _ => match am_ld L (tg.headD 0) with
    | some (.inl x) => bif Nat.blt (tg.headD 0) L.length then some (am_st L (tg.headD 0) (.inl (x + cv)), st, w) else none
    | _ => none
  | .iadd => match st with
    | .inl b :: .inl a :: r => some (L, .inl (a + b) :: r, w)
    | _ => none
  | .isub => match st with
    | .inl b :: .inl a :: r => some (L, .inl (a - b) :: r, w)
    | _ => none
  | .imul => match st with
    | .inl b :: .inl a :: r => some (L, .inl (a * b) :: r, w)
    | _ => none
  | .ineg => match st with
    | .inl a :: r => some (L, .inl (-a) :: r, w)
    | _ => none
  | .idiv => match st with
    | .inl b :: .inl a :: r => if wr b = 0 then none else some (L, .inl ((wr a).tdiv (wr b)) :: r, w)
    | _ => none
  | .irem => match st with
    | .inl b :: .inl a :: r => if wr b = 0 then none else some (L, .inl ((wr a).tmod (wr b)) :: r, w)
    | _ => none
  | .iand => match st with
    | .inl b :: .inl a :: r => some (L, .inl (am_and a b) :: r, w)
    | _ => none
  | .ior => match st with
    | .inl b :: .inl a :: r => some (L, .inl (am_or a b) :: r, w)
    | _ => none
  | .ixor => match st with
    | .inl b :: .inl a :: r => some (L, .inl (am_xor a b) :: r, w)
    | _ => none
  | .ishl => match st with
    | .inl b :: .inl a :: r => some (L, .inl (am_shl a b) :: r, w)
    | _ => none
  | .ishr => match st with
    | .inl b :: .inl a :: r => some (L, .inl (am_shr a b) :: r, w)
    | _ => none
  | .iushr => match st with
    | .inl b :: .inl a :: r => some (L, .inl (am_ushr a b) :: r, w)
    | _ => none
  | .ladd => match st with
    | .inr (.inl b) :: .inr (.inl a) :: r => some (L, .inr (.inl (a + b)) :: r, w)
    | _ => none
  | .lsub => match st with
    | .inr (.inl b) :: .inr (.inl a) :: r => some (L, .inr (.inl (a - b)) :: r, w)
    | _ => none
  | .lmul => match st with
    | .inr (.inl b) :: .inr (.inl a) :: r => some (L, .inr (.inl (a * b)) :: r, w)
    | _ => none
  | .ldiv => match st with
    | .inr (.inl b) :: .inr (.inl a) :: r => if wl b = 0 then none else some (L, .inr (.inl ((wl a).tdiv (wl b))) :: r, w)
    | _ => none
  | .lshr => match st with
    | .inl b :: .inr (.inl a) :: r => some (L, .inr (.inl (am_lshr a b)) :: r, w)
    | _ => none
  | .lcmp => match st with
    | .inr (.inl b) :: .inr (.inl a) :: r => some (L, .inl (if wl b < wl a then 1 else if wl a = wl b then 0 else -1) :: r, w)
    | _ => none
  | .i2l => match st with
    | .inl a :: r => some (L, .inr (.inl (wr a)) :: r, w)
    | _ => none
  | .l2i => match st with
    | .inr (.inl a) :: r => some (L, .inl a :: r, w)
    | _ => none
  | .i2b => match st with
    | .inl a :: r => some (L, .inl (am_i2b a) :: r, w)
    | _ => none
  | .i2c => match st with
    | .inl a :: r => some (L, .inl (am_i2c a) :: r, w)
    | _ => none
  | .dup => match st with
    | v :: r => bif Nat.beq (am_cat v) 1 then some (L, v :: v :: r, w) else none
    | _ => none
  | .dup2 => match st with
    | v :: u :: r => bif Nat.beq (am_cat v) 2 then some (L, v :: v :: u :: r, w) else bif Nat.beq (am_cat u) 1 then some (L, v :: u :: v :: u :: r, w) else none
    | [v] => bif Nat.beq (am_cat v) 2 then some (L, [v, v], w) else none
    | _ => none
  | .pop => match st with
    | v :: r => bif Nat.beq (am_cat v) 1 then some (L, r, w) else none
    | _ => none
  | .arraylength => match st with
    | .inr (.inr (some r)) :: rest => match am_arr X w r with
      | some (ty, n, _) => bif Nat.blt ty 4 then some (L, .inl (n : Int) :: rest, w) else none
      | none => none
    | _ => none
  | .iaload => match st with
    | .inl j :: .inr (.inr (some r)) :: rest => match am_arr X w r with
      | some (0, n, f) => if 0 ≤ j ∧ j < n then some (L, .inl (f j.toNat) :: rest, w) else none
      | _ => none
    | _ => none
  | .baload => match st with
    | .inl j :: .inr (.inr (some r)) :: rest => match am_arr X w r with
      | some (1, n, f) => if 0 ≤ j ∧ j < n then some (L, .inl (f j.toNat) :: rest, w) else none
      | some (3, n, f) => if 0 ≤ j ∧ j < n then some (L, .inl (f j.toNat) :: rest, w) else none
      | _ => none
    | _ => none
  | .laload => match st with
    | .inl j :: .inr (.inr (some r)) :: rest => match am_arr X w r with
      | some (2, n, f) => if 0 ≤ j ∧ j < n then some (L, .inr (.inl (f j.toNat)) :: rest, w) else none
      | _ => none
    | _ => none
  | .iastore => match st with
    | .inl x :: .inl j :: .inr (.inr (some r)) :: rest => match am_arw w r with
      | some (0, n) => if 0 ≤ j ∧ j < n then some (L, rest, (w.1, u2 w.2 r j.toNat (wr x))) else none
      | _ => none
    | _ => none
  | .bastore => match st with
    | .inl x :: .inl j :: .inr (.inr (some r)) :: rest => match am_arw w r with
      | some (1, n) => if 0 ≤ j ∧ j < n then some (L, rest, (w.1, u2 w.2 r j.toNat (am_i2b x))) else none
      | some (3, n) => if (0 ≤ j ∧ j < n) ∧ (x = 0 ∨ x = 1) then some (L, rest, (w.1, u2 w.2 r j.toNat x)) else none
      | _ => none
    | _ => none
  | .lastore => match st with
    | .inr (.inl x) :: .inl j :: .inr (.inr (some r)) :: rest => match am_arw w r with
      | some (2, n) => if 0 ≤ j ∧ j < n then some (L, rest, (w.1, u2 w.2 r j.toNat (wl x))) else none
      | _ => none
    | _ => none
  | .getfield _ => match st with
    | .inr (.inr (some r)) :: rest => match w.1[r]?, tg with
      | some (.inr (cj, fs)), [ci, k, _] => bif Nat.beq ci cj then (match fs[k]? with
        | some none => some (L, .inl (w.2 r k) :: rest, w)
        | some (some o) => some (L, .inr (.inr o) :: rest, w)
        | none => none) else none
      | none, [k, _] => match X.2.1 r k with
        | some v => some (L, v :: rest, w)
        | none => none
      | _, _ => none
    | _ => none
  | .putfield _ => match st with
    | .inl x :: .inr (.inr (some r)) :: rest => match w.1[r]?, tg with
      | some (.inr (cj, fs)), [ci, k, _, z] => bif Nat.beq ci cj then (match fs[k]? with
        | some none => bif (Nat.ble z 2 && (!Nat.beq z 1 || decide (x = 0 ∨ x = 1))) then some (L, rest, (w.1, u2 w.2 r k (wr x))) else none
        | _ => none) else none
      | _, _ => none
    | .inr (.inr o) :: .inr (.inr (some r)) :: rest => match w.1[r]?, tg with
      | some (.inr (cj, fs)), [ci, k, _, z] => bif (Nat.beq ci cj && Nat.beq z 3) then (match fs[k]? with
        | some (some _) => some (L, rest, (w.1.set r (.inr (cj, fs.set k (some o))), w.2))
        | _ => none) else none
      | _, _ => none
    | _ => none
  | .getstatic _ => match tg with
    | [k, _] => match X.2.2 k with
      | some v => some (L, v :: st, w)
      | none => none
    | _ => none
  | .invokestatic _ => match st with
    | .inl n :: .inl dp :: .inr (.inr (some r1)) :: .inl sp :: .inr (.inr (some r0)) :: rest => match am_arw w r0, am_arw w r1 with
      | some (0, n0), some (0, n1) => if (0 ≤ sp ∧ 0 ≤ dp ∧ 0 ≤ n) ∧ sp + n ≤ n0 ∧ dp + n ≤ n1 ∧ (rest.map am_cat).sum ≤ 8 then some (L, rest, (w.1, am_cp w.2 r0 r1 sp.toNat dp.toNat n.toNat)) else none
      | _, _ => none
    | _ => none
  | .invokespecial _ => match st with
    | .inr (.inr (some _)) :: rest => if (rest.map am_cat).sum ≤ 8 then some (L, rest, w) else none
    | _ => none
  | _ => none
/-- what a new object's fields hold: none a number, some none the null reference -/
def am_vld (n : Nat) (v : AV) : Bool := match v with
  | .inr (.inr (some k)) => Nat.blt k n || Nat.ble 1000 k
  | _ => true
def am_vS (n : Nat) (sh : List am_Sh) : Bool := sh.all (fun s => match s with
  | .inl _ => true
  | .inr (_, fs) => fs.all (fun o => match o with
    | some (some k) => Nat.blt k n || Nat.ble 1000 k
    | _ => true))
/-- all references are to cells that there are, or to what lies outside -/
def am_vw (w : am_W) (L : am_L) (st : List AV) : Bool := Nat.blt w.1.length 900 && (am_vS w.1.length w.1 && (L.all (fun o => match o with
  | some v => am_vld w.1.length v
  | none => true) && st.all (am_vld w.1.length)))
def am_sl (sh : List am_Sh) : Nat := (sh.map (fun s => match s with
  | .inl (_, n) => n
  | .inr (_, fs) => fs.length)).sum
def am_rcv (w : am_W) (ci : Nat) (v : Option AV) : Bool := match v with
  | some (.inr (.inr (some r))) => match w.1[r]? with
    | some (.inr (cj, _)) => Nat.beq ci cj
    | some (.inl _) => false
    | none => Nat.beq ci 99 && (Nat.ble 1000 r && Nat.blt r 1024)
  | _ => false
def am_ent (a : List AV) (n : Nat) : am_L := a.map some ++ List.replicate (n - a.length) none
def am_rk (k : Nat) (v : Int) : Bool := match k with
  | 1 => true
  | 2 => decide (v = 0 ∨ v = 1)
  | 4 => decide (0 ≤ v ∧ v < 65536)
  | 5 => decide (v = 0)
  | _ => false
abbrev am_R : Type := Option (Option AV × am_W)
def am_call (P : Nat → Option am_M) (w : am_W) (d : Nat) (tg : List Nat) (L : am_L) (st : List AV) (virt : Bool) (run : Nat → Nat → am_L → am_R) (go : List AV → am_W → am_R) : am_R := match tg with
  | mj :: _ :: tl => match P mj, d with
    | some mu, d' + 1 => bif (Nat.ble mu.2.1 st.length && (Nat.ble ((st.drop mu.2.1).map am_cat).sum 8 && ((st.take mu.2.1).all (fun v => Nat.beq (am_cat v) 1) && (!virt || am_rcv w (tl.headD 99) st[mu.2.1 - 1]?)))) then
        (match run d' mj (am_ent (st.take mu.2.1).reverse mu.2.2.1) with
        | none => none
        | some (r, w') => bif (Nat.beq w'.1.length w.1.length || am_vw w L (st.drop mu.2.1)) then go (r.toList ++ st.drop mu.2.1) w' else none)
      else none
    | _, _ => none
  | _ => none
def am_fet : List (Nat × am_I) → Nat → Option am_I
  | [], _ => none
  | (q, i) :: l, pc => bif Nat.beq q pc then some i else am_fet l pc
def am_new (F : Nat → Option (List (Option (Option Nat)))) (i : Instr) (tg : List Nat) (L : am_L) (st : List AV) (w : am_W) : Option (List AV × am_W) := match i with
  | .new _ => match F (tg.headD 99) with
    | some fs => bif am_vw w L st then some (.inr (.inr (some w.1.length)) :: st, (w.1 ++ [.inr (tg.headD 99, fs)], am_z w.2 w.1.length)) else none
    | none => none
  | .newarray _ => match st with
    | .inl n :: r => bif (am_vw w L r && decide (0 ≤ n ∧ n < 100000)) then some (.inr (.inr (some w.1.length)) :: r, (w.1 ++ [.inl (tg.headD 99, n.toNat)], am_z w.2 w.1.length)) else none
    | _ => none
  | _ => none
/-- a run: with so many steps, so many calls deep -/
def am_ex (P : Nat → Option am_M) (F : Nat → Option (List (Option (Option Nat)))) (X : am_X) : Nat → Nat → Nat → Nat → am_L → List AV → am_W → am_R
  | 0, _, _, _, _, _, _ => none
  | n + 1, d, mi, pc, L, st, w => match P mi with
    | none => none
    | some mt => match am_fet mt.1 pc with
      | none => none
      | some (i, nx, tg, cv) => match i with
        | .goto _ => am_ex P F X n d mi (tg.headD 0) L st w
        | .if_icmp c _ => match st with
          | .inl b :: .inl a :: r => if am_cmp c (wr a) (wr b) = true then am_ex P F X n d mi (tg.headD 0) L r w else am_ex P F X n d mi nx L r w
          | _ => none
        | .ifCond c _ => match st with
          | .inl a :: r => if am_cmp c (wr a) 0 = true then am_ex P F X n d mi (tg.headD 0) L r w else am_ex P F X n d mi nx L r w
          | _ => none
        | .tableswitch _ lo hi _ => match st with
          | .inl a :: r => if wr a < lo ∨ hi < wr a then am_ex P F X n d mi (tg.headD 0) L r w else am_ex P F X n d mi (tg.getD ((wr a - lo).toNat + 1) 0) L r w
          | _ => none
        | .ireturn => match st with
          | [.inl v] => bif am_rk mt.2.2.2 v then some (some (.inl v), w) else none
          | _ => none
        | .lreturn => match st with
          | [.inr (.inl v)] => bif Nat.beq mt.2.2.2 3 then some (some (.inr (.inl v)), w) else none
          | _ => none
        | .return_ => match st with
          | [] => bif Nat.beq mt.2.2.2 0 then some (none, w) else none
          | _ => none
        | .new k => match am_new F (.new k) tg L st w with
          | some (st', w') => am_ex P F X n d mi nx L st' w'
          | none => none
        | .newarray k => match am_new F (.newarray k) tg L st w with
          | some (st', w') => am_ex P F X n d mi nx L st' w'
          | none => none
        | .invokevirtual _ => am_call P w d tg L st true (fun d' mj L0 => am_ex P F X n d' mj 0 L0 [] w) (fun st' w' => am_ex P F X n d mi nx L st' w')
        | .invokestatic k => bif Nat.blt (tg.headD 0) 9000 then am_call P w d tg L st false (fun d' mj L0 => am_ex P F X n d' mj 0 L0 [] w) (fun st' w' => am_ex P F X n d mi nx L st' w')
          else match am_smp X (.invokestatic k) tg cv L st w with
          | some (L', st', w') => am_ex P F X n d mi nx L' st' w'
          | none => none
        | .invokespecial k => bif Nat.blt (tg.headD 0) 9000 then am_call P w d tg L st true (fun d' mj L0 => am_ex P F X n d' mj 0 L0 [] w) (fun st' w' => am_ex P F X n d mi nx L st' w')
          else match am_smp X (.invokespecial k) tg cv L st w with
          | some (L', st', w') => am_ex P F X n d mi nx L' st' w'
          | none => none
        | j => match am_smp X j tg cv L st w with
          | some (L', st', w') => am_ex P F X n d mi nx L' st' w'
          | none => none
