/-! the abstract machine: one method's run over a heap that is a function, with a depth for calls; a string constant is .retAddr k, its bytes .retAddr (50 + k), DigitOnes .retAddr 97, the script .retAddr 99, a local that nothing is known of .float 0 -/
abbrev z_C : Type := (FieldType × vp_A) ⊕ (Nat × List Value)
abbrev z_H : Type := (Nat → Option z_C) × Option Nat × Nat × Nat
abbrev z_G : Type := Nat × (Nat → Int32)
def z_un : Value := .float 0
def z_up (f : Nat → Option z_C) (a : Nat) (c : z_C) : Nat → Option z_C := fun j => if j = a then some c else f j
/-- next; a call; an end; a throw -/
abbrev z_Act : Type := ((Nat × List Value × List Value × z_H) ⊕ (Nat × List Value × List Value)) ⊕ (Option Value ⊕ (String × z_H))
def z_go (pc : Nat) (ls st : List Value) (h : z_H) : Option z_Act := some (.inl (.inl (pc, ls, st, h)))
def z_me (m : Nat) : Option z_Me := z_meths[m]?
def z_ins (m pc : Nat) : Option (Instr × Nat) := match z_me m with
  | some q => match decode q.2.1 pc with
    | .ok r => some r
    | _ => none
  | none => none
def z_own (m : Nat) : String := match z_me m with
  | some q => q.1.cls
  | none => ""
def z_isInit (m : Nat) : Bool := match z_me m with
  | some q => decide (q.1.name = "<init>")
  | none => false
def z_rt (m : Nat) : Option FieldType := match z_me m with
  | some q => q.2.2.2.1
  | none => none
def z_maxL (m : Nat) : Nat := match z_me m with
  | some q => q.2.2.1
  | none => 0
def z_hds (m : Nat) : List (Nat × Nat × Nat × Nat) := match z_me m with
  | some q => q.2.2.2.2
  | none => []
def z_isRt (t : FieldType) : Bool := match t with
  | .object _ => true
  | .array _ => true
  | _ => false
/-- a field: class, slot, is it a reference, is it final -/
def z_flA (l : List ((String × Nat) × (Nat × Nat × Nat))) (own : String) (idx : Nat) : Option (Nat × Nat × Bool × Bool) := match z_lookup l (own, idx) with
  | some (ci, k, _) => match vwCl[ci]?, z_tys[ci]? with
    | some (_, T, _), some ty => some (ci, k, z_isRt (ty k), (T k).2.2.2)
    | _, _ => none
  | none => none
def z_fl (own : String) (idx : Nat) : Option (Nat × Nat × Bool × Bool) := match z_flA z_fls own idx with
  | some x => some x
  | none => z_flA z_fns own idx
/-- who declares a field -/
def z_dcl (ci k : Nat) : String := match vwCl[ci]? with
  | some (_, T, _) => (T k).1
  | none => ""
/-- what may stand in a field: any int, but 0 alone where the type is narrower -/
def z_nrw (ci k : Nat) (v : Value) : Bool := match z_tys[ci]? with
  | some ty => match ty k with
    | .int => true
    | .object _ => true
    | .array _ => true
    | .byte => decide (v = .int 0)
    | .boolean => decide (v = .int 0)
    | _ => false
  | none => false
def z_tgt (pc : Nat) (off : Int) : Option Nat := if 0 ≤ (pc : Int) + off then some ((pc : Int) + off).toNat else none
def z_cmp (c : ClassFile.Cond) (x y : Int32) : Bool := match c with
  | .eq => decide (x = y)
  | .ne => decide (¬ x = y)
  | .lt => decide (x < y)
  | .ge => decide (y ≤ x)
  | .gt => decide (y < x)
  | .le => decide (x ≤ y)
def z_bin (i : Instr) : Option (Int32 → Int32 → Int32) := match i with
  | .iadd => some fun x y => x + y
  | .isub => some fun x y => x - y
  | .imul => some fun x y => x * y
  | .iand => some fun x y => x &&& y
  | .ior => some fun x y => x ||| y
  | .ixor => some fun x y => x ^^^ y
  | .ishl => some fun x y => x <<< (y &&& 31)
  | .ishr => some fun x y => x >>> (y &&& 31)
  | .iushr => some fun x y => (x.toUInt32 >>> (y.toUInt32 &&& Int32.toUInt32 31)).toInt32
  | _ => none
/-- the literals' texts -/
def z_lit (k : Nat) : List Int32 := if k = 0 then [114, 101, 99, 116, 97, 110, 103, 108, 101] else if k = 1 then [98, 97, 110] else if k = 2 then [103, 105, 118, 101, 110] else if k = 3 then [114, 101, 99, 116, 97, 110, 103, 108, 101, 32] else if k = 4 then [103, 105, 118, 101, 110, 32] else [98, 97, 110, 32]
def z_idx (i : Int32) (n : Nat) : Bool := !decide (i < 0) && decide (i.toNatClampNeg < n)
/-- what is read at a place of an array -/
def z_rd (h : z_H) (g : z_G) (i : Instr) (a : Value) (j : Int32) : Option Value := match a with
  | .retAddr 99 => match i with
    | .iaload => if z_idx j g.1 then some (.int (g.2 j.toNatClampNeg)) else none
    | _ => none
  | .retAddr 97 => match i with
    | .baload => if z_idx j 10 then some (.int (nI (48 + j.toNatClampNeg))) else none
    | _ => none
  | .ref a => match h.1 a with
    | some (.inl (ty, n, f)) => if z_idx j n then match i, ty, f with
        | .iaload, .int, .inl f => some (.int (f j.toNatClampNeg))
        | .baload, .byte, .inl f => some (.int (f j.toNatClampNeg))
        | .baload, .boolean, .inl f => some (.int (f j.toNatClampNeg))
        | .aaload, .array .int, .inr (.inr (.inr (.inr f))) => match f j.toNatClampNeg with
          | some r => some (.ref r)
          | none => none
        | .aaload, .array .boolean, .inr (.inr (.inr (.inr f))) => match f j.toNatClampNeg with
          | some r => some (.ref r)
          | none => none
        | .aaload, .array (.array .boolean), .inr (.inr (.inr (.inr f))) => match f j.toNatClampNeg with
          | some r => some (.ref r)
          | none => none
        | _, _, _ => none
      else none
    | _ => none
  | _ => none
/-- an array of ints stands at r -/
def z_isIA (h : z_H) (r : Nat) : Bool := match h.1 r with
  | some (.inl (.int, _, _)) => true
  | _ => false
/-- a place of an array is written -/
def z_wr (h : z_H) (i : Instr) (a : Nat) (j : Int32) (v : Value) : Option z_H := match h.1 a with
  | some (.inl (ty, n, f)) => if z_idx j n then match i, ty, f, v with
      | .iastore, .int, .inl f, .int x => some (z_up h.1 a (.inl (.int, n, .inl (upd f j.toNatClampNeg x))), h.2)
      | .bastore, .byte, .inl f, .int x => some (z_up h.1 a (.inl (.byte, n, .inl (upd f j.toNatClampNeg (vp_nar .byte x)))), h.2)
      | .bastore, .boolean, .inl f, .int x => some (z_up h.1 a (.inl (.boolean, n, .inl (upd f j.toNatClampNeg (vp_nar .boolean x)))), h.2)
      | .aastore, .array .int, .inr (.inr (.inr (.inr f))), .ref r => if z_isIA h r then some (z_up h.1 a (.inl (.array .int, n, .inr (.inr (.inr (.inr (va_up f j.toNatClampNeg (some r))))))), h.2) else none
      | _, _, _, _ => none
    else none
  | _ => none
def z_arr0 (t : ArrayType) : Option (FieldType × (((Nat → Int32) ⊕ (Nat → Int64) ⊕ (Nat → UInt32) ⊕ (Nat → UInt64) ⊕ (Nat → Option Nat)))) := match t with
  | .int => some (.int, .inl fun _ => 0)
  | .boolean => some (.boolean, .inl fun _ => 0)
  | .byte => some (.byte, .inl fun _ => 0)
  | _ => none
/-- new array of n -/
def z_na (h : z_H) (t : ArrayType) (n : Int32) : Option (Nat × z_H) := match z_arr0 t, h.2.1 with
  | some (ty, f), some q => if 0 ≤ n ∧ n ≤ 1000 then some (q, (z_up h.1 q (.inl (ty, n.toNatClampNeg, f)), some (q + 1), h.2.2.1 + 1, h.2.2.2 + n.toNatClampNeg)) else none
  | _, _ => none
/-- new T[n][k], T int or boolean -/
def z_ma2 (t : FieldType) (h : z_H) (n k : Int32) : Option (Nat × z_H) := match h.2.1 with
  | some q => if (0 ≤ n ∧ n ≤ 1000) ∧ (0 ≤ k ∧ k ≤ 1000) then
      some (q, (fun j => if j = q then some (.inl (.array t, n.toNatClampNeg, .inr (.inr (.inr (.inr fun i => if i < n.toNatClampNeg then some (q + 1 + i) else none)))))
        else if q < j ∧ j ≤ q + n.toNatClampNeg then some (.inl (t, k.toNatClampNeg, .inl fun _ => 0)) else h.1 j, some (q + 1 + n.toNatClampNeg), h.2.2.1 + 1 + n.toNatClampNeg, h.2.2.2 + n.toNatClampNeg + n.toNatClampNeg * k.toNatClampNeg)) else none
  | none => none
/-- the cells of new boolean[n][k][l], from q on -/
def z_m3 (q n k l : Nat) (f : Nat → Option z_C) : Nat → Option z_C := fun j =>
  if j = q then some (.inl (.array (.array .boolean), n, .inr (.inr (.inr (.inr fun i => if i < n then some (q + 1 + i * (1 + k)) else none)))))
  else if q < j ∧ j ≤ q + n * (1 + k) then
    (if (j - q - 1) % (1 + k) = 0 then some (.inl (.array .boolean, k, .inr (.inr (.inr (.inr fun i => if i < k then some (j + 1 + i) else none)))))
     else some (.inl (.boolean, l, .inl fun _ => 0)))
  else f j
def z_ma3 (h : z_H) (n k l : Int32) : Option (Nat × z_H) := match h.2.1 with
  | some q => if (0 ≤ n ∧ n ≤ 100) ∧ (0 ≤ k ∧ k ≤ 100) ∧ (0 ≤ l ∧ l ≤ 100) then
      some (q, (z_m3 q n.toNatClampNeg k.toNatClampNeg l.toNatClampNeg h.1, some (q + 1 + n.toNatClampNeg * (1 + k.toNatClampNeg)), h.2.2.1 + 1 + n.toNatClampNeg * (1 + k.toNatClampNeg), h.2.2.2 + n.toNatClampNeg + n.toNatClampNeg * (k.toNatClampNeg + k.toNatClampNeg * l.toNatClampNeg))) else none
  | none => none
/-- new int[n][] -/
def z_an (h : z_H) (n : Int32) : Option (Nat × z_H) := match h.2.1 with
  | some q => if 0 ≤ n ∧ n ≤ 1000 then some (q, (z_up h.1 q (.inl (.array .int, n.toNatClampNeg, .inr (.inr (.inr (.inr fun _ => none))))), some (q + 1), h.2.2.1 + 1, h.2.2.2 + n.toNatClampNeg)) else none
  | none => none
def z_fitB (f : Nat → Int32) (p n : Nat) : Bool := (List.range n).all fun i => fits .byte (.int (f (p + i)))
def z_cnk (k : Nat) (ty : FieldType) (f : Nat → Int32) (n : Nat) : Bool := match k with
  | 0 => decide (ty = .int)
  | _ => decide (ty = .byte) && z_fitB f 0 n
/-- clone of an array of ints (0) or bytes (1) -/
def z_cln (h : z_H) (k a : Nat) : Option (Nat × z_H) := match h.2.1, h.1 a with
  | some q, some (.inl (ty, n, .inl f)) => if z_cnk k ty f n = true then some (q, (z_up h.1 q (.inl (ty, n, .inl f)), some (q + 1), h.2.2.1 + 1, h.2.2.2 + n)) else none
  | _, _ => none
/-- a cast to an array of ints (0) or bytes (1) -/
def z_cst (h : z_H) (k a : Nat) : Bool := match h.1 a with
  | some (.inl (.int, _, _)) => decide (k = 0)
  | some (.inl (.byte, _, _)) => decide (k = 1)
  | _ => false
/-- System.arraycopy of bytes: out of a literal's, or of another array -/
def z_cpy (h : z_H) (src : Value) (sp : Int32) (dst : Nat) (dp n : Int32) : Option z_H := match h.1 dst with
  | some (.inl (.byte, N, .inl d)) => if 0 ≤ sp ∧ 0 ≤ dp ∧ 0 ≤ n ∧ dp.toNatClampNeg + n.toNatClampNeg ≤ N then
      match src with
      | .retAddr k => if 50 ≤ k ∧ k < 56 ∧ sp.toNatClampNeg + n.toNatClampNeg ≤ (z_lit (k - 50)).length then some (z_up h.1 dst (.inl (.byte, N, .inl (va_cpy (fun j => (z_lit (k - 50)).getD j 0) d sp.toNatClampNeg dp.toNatClampNeg n.toNatClampNeg))), h.2) else none
      | .ref a => match h.1 a with
        | some (.inl (.byte, M, .inl f)) => if a ≠ dst ∧ sp.toNatClampNeg + n.toNatClampNeg ≤ M ∧ z_fitB f sp.toNatClampNeg n.toNatClampNeg = true then some (z_up h.1 dst (.inl (.byte, N, .inl (va_cpy f d sp.toNatClampNeg dp.toNatClampNeg n.toNatClampNeg))), h.2) else none
        | _ => none
      | _ => none
    else none
  | _ => none
def z_nw (own : String) (idx : Nat) : Option (Nat × Nat × List Value) := match z_lookup z_nws (own, idx) with
  | some (ci, _) => match vwCl[ci]?, z_dfs[ci]? with
    | some (_, _, N), some fs => some (ci, N, fs)
    | _, _ => none
  | none => none
/-- 'throw new E(text)' from here on -/
def z_th (m pc : Nat) (own : String) (idx : Nat) : Option String := match z_lookup z_exs (own, idx) with
  | some (E, ic, _) => match z_ins m (pc + 3), z_ins m (pc + 4) with
    | some (.dup, 1), some (.ldc is, 2) => if (z_lookup z_sxs (own, is)).isSome ∧ z_ins m (pc + 6) = some (.invokespecial ic, 3) ∧ z_ins m (pc + 9) = some (.athrow, 1) then some E else none
    | some (.dup, 1), some (.ldc_w is, 3) => if (z_lookup z_sxs (own, is)).isSome ∧ z_ins m (pc + 7) = some (.invokespecial ic, 3) ∧ z_ins m (pc + 10) = some (.athrow, 1) then some E else none
    | _, _ => none
  | none => none
def z_prim (p : Nat) (st : List Value) : Option (List Value) := match p, st with
  | 0, .retAddr k :: r => if k < 3 then some (.int (nI (z_lit k).length) :: r) else none
  | 1, .int i :: .retAddr k :: r => if k < 3 ∧ z_idx i (z_lit k).length then some (.int ((z_lit k).getD i.toNatClampNeg 0) :: r) else none
  | 2, .int y :: .int x :: r => some (.int (if x < y then y else x) :: r)
  | 3, .int y :: .int x :: r => some (.int (if y < x then y else x) :: r)
  | 4, .int n :: .int i :: r => if 0 ≤ i ∧ i < n then some r else none
  | _, _ => none
/-- is the receiver a literal -/
def z_isL (p : Nat) (st : List Value) : Bool := match p, st with
  | 0, .retAddr _ :: _ => true
  | 1, _ :: .retAddr _ :: _ => true
  | _, _ => false
def z_ld (ls : List Value) (k : Nat) (isInt : Bool) : Option Value := match ls[k]? with
  | some (.int x) => if isInt then some (.int x) else none
  | some (.ref a) => if isInt then none else some (.ref a)
  | some (.retAddr a) => if isInt then none else some (.retAddr a)
  | some .null => if isInt then none else some .null
  | _ => none
/-- a value that a local for references takes -/
def z_isA (v : Value) : Bool := match v with
  | .ref _ => true
  | .null => true
  | _ => false
/-- the arguments of a call out of the stack, the receiver (if any) at their head -/
def z_args (n : Nat) (st : List Value) : Option (List Value × List Value) := if n ≤ st.length then some ((st.take n).reverse, st.drop n) else none
def z_clk (own : String) (idx : Nat) : Option (Nat × Nat × Nat) := match z_lookup z_cls (own, idx) with
  | some (m, kind, n, _) => some (m, kind, n)
  | none => none
/-- the receiver is an object of the class; a literal is a String -/
def z_recv (h : z_H) (m : Nat) (v : Option Value) : Bool := match v with
  | some (.retAddr k) => decide (k < 6) && decide (z_own m = "java/lang/String")
  | some (.ref a) => match h.1 a with
    | some (.inr (ci, _)) => match vwCl[ci]? with
      | some (C, _) => decide (C = z_own m)
      | none => false
    | _ => false
  | _ => false
def z_isR (v : Option Value) : Bool := match v with
  | some (.ref _) => true
  | _ => false
/-- a StringBuilder -/
def z_sb (h : z_H) (v : Option Value) : Bool := match v with
  | some (.ref a) => match h.1 a with
    | some (.inr (12, _)) => true
    | _ => false
  | _ => false
/-- what a call of a kind asks of its receiver -/
def z_rcv (h : z_H) (kind m : Nat) (v : Option Value) : Bool := match kind with
  | 0 => z_recv h m v
  | 1 => true
  | 2 => z_isR v
  | 3 => z_isR v
  | _ => z_sb h v
/-- which kinds an instruction calls (0 invokevirtual, 1 invokestatic, 2 invokespecial) -/
def z_kd (k kind : Nat) : Bool := match k with
  | 0 => decide (kind = 0) || decide (kind = 4)
  | 1 => decide (kind = 1)
  | _ => decide (kind = 2) || decide (kind = 3) || decide (kind = 5)
def z_call (k : Nat) (own : String) (idx : Nat) (ls st : List Value) (h : z_H) : Option z_Act := match z_clk own idx with
  | some (m, kind, n) => if z_kd k kind then
      match z_args (if k = 1 then n else n + 1) st with
      | some (as, r) => if z_rcv h kind m as.head? && decide (r.length ≤ 8 ∧ ∀ v ∈ r ++ as, v.category = 1) then some (.inl (.inr (m, as, r))) else none
      | none => none
    else none
  | none => none
def z_ret (m : Nat) (st : List Value) : Option z_Act := match st with
  | [.int x] => match z_rt m with
    | some .int => some (.inr (.inl (some (.int x))))
    | some .boolean => if x = 0 ∨ x = 1 then some (.inr (.inl (some (.int x)))) else none
    | some .byte => if vp_nar .byte x = x then some (.inr (.inl (some (.int x)))) else none
    | some .char => if vp_nar .char x = x then some (.inr (.inl (some (.int x)))) else none
    | _ => none
  | _ => none
/-- a reference is returned -/
def z_reta (m : Nat) (st : List Value) : Option z_Act := match st with
  | [v] => match z_rt m with
    | some t => if (z_isA v && z_isRt t) = true then some (.inr (.inl (some v))) else none
    | none => none
  | _ => none
/-- a value of a field's kind -/
def z_vk (v : Value) (isR : Bool) : Bool := match v with
  | .int _ => !isR
  | .ref _ => isR
  | .null => isR
  | _ => false
/-- no exception leaves a method of the JDK here -/
def z_jdk (m : Nat) : Bool := z_jdkC (z_own m)
/-- one instruction -/
def z_op (g : z_G) (m pc : Nat) (i : Instr) (ls st : List Value) (h : z_H) : Option z_Act := match i with
  | .iconst n => z_go (pc + 1) ls (.int (Int32.ofInt n) :: st) h
  | .bipush n => z_go (pc + 2) ls (.int (Int8.ofInt n).toInt32 :: st) h
  | .sipush n => z_go (pc + 3) ls (.int (Int16.ofInt n).toInt32 :: st) h
  | .aconst_null => z_go (pc + 1) ls (.null :: st) h
  | .ldc_w idx => match z_lookup z_kss (z_own m, idx) with
    | some (x, _) => z_go (pc + 3) ls (.int x :: st) h
    | none => none
  | .ldc idx => match z_lookup z_srs (z_own m, idx) with
    | some k => z_go (pc + 2) ls (.retAddr k :: st) h
    | none => match z_lookup z_kss (z_own m, idx) with
      | some (x, _) => z_go (pc + 2) ls (.int x :: st) h
      | none => none
  | .iload_n k => (z_ld ls k true).bind fun v => z_go (pc + 1) ls (v :: st) h
  | .iload k => (z_ld ls k true).bind fun v => z_go (pc + 2) ls (v :: st) h
  | .aload_n k => (z_ld ls k false).bind fun v => z_go (pc + 1) ls (v :: st) h
  | .aload k => (z_ld ls k false).bind fun v => z_go (pc + 2) ls (v :: st) h
  | .istore_n k => match st with
    | .int x :: r => if (k : Nat) < ls.length then z_go (pc + 1) (ls.set k (.int x)) r h else none
    | _ => none
  | .istore k => match st with
    | .int x :: r => if k < ls.length then z_go (pc + 2) (ls.set k (.int x)) r h else none
    | _ => none
  | .astore_n k => match st with
    | v :: r => if z_isA v = true ∧ (k : Nat) < ls.length then z_go (pc + 1) (ls.set k v) r h else none
    | _ => none
  | .astore k => match st with
    | v :: r => if z_isA v = true ∧ k < ls.length then z_go (pc + 2) (ls.set k v) r h else none
    | _ => none
  | .iinc k n => match ls[k]? with
    | some (.int x) => z_go (pc + 3) (ls.set k (.int (x + Int32.ofInt n))) st h
    | _ => none
  | .idiv => match st with
    | .int y :: .int x :: r => if y = 0 then none else z_go (pc + 1) ls (.int (x / y) :: r) h
    | _ => none
  | .irem => match st with
    | .int y :: .int x :: r => if y = 0 then none else z_go (pc + 1) ls (.int (x - x / y * y) :: r) h
    | _ => none
  | .ineg => match st with
    | .int x :: r => z_go (pc + 1) ls (.int (-x) :: r) h
    | _ => none
  | .i2c => match st with
    | .int x :: r => z_go (pc + 1) ls (.int (x.toUInt32 % 65536).toInt32 :: r) h
    | _ => none
  | .i2b => match st with
    | .int x :: r => z_go (pc + 1) ls (.int x.toInt8.toInt32 :: r) h
    | _ => none
  | .dup => match st with
    | v :: r => if v.category = 1 then z_go (pc + 1) ls (v :: v :: r) h else none
    | _ => none
  | .dup_x1 => match st with
    | v :: w :: r => if v.category = 1 ∧ w.category = 1 then z_go (pc + 1) ls (v :: w :: v :: r) h else none
    | _ => none
  | .dup2 => match st with
    | v :: w :: r => if v.category = 1 ∧ w.category = 1 then z_go (pc + 1) ls (v :: w :: v :: w :: r) h else none
    | _ => none
  | .pop => match st with
    | v :: r => if v.category = 1 then z_go (pc + 1) ls r h else none
    | _ => none
  | .ifCond c off => match st with
    | .int x :: r => (z_tgt pc off).bind fun t => if z_cmp c x 0 then z_go t ls r h else z_go (pc + 3) ls r h
    | _ => none
  | .if_icmp c off => match st with
    | .int y :: .int x :: r => (z_tgt pc off).bind fun t => if z_cmp c x y then z_go t ls r h else z_go (pc + 3) ls r h
    | _ => none
  | .goto off => (z_tgt pc off).bind fun t => z_go t ls st h
  | .ifnull off => match st with
    | .null :: r => (z_tgt pc off).bind fun t => z_go t ls r h
    | .ref _ :: r => z_go (pc + 3) ls r h
    | .retAddr _ :: r => z_go (pc + 3) ls r h
    | _ => none
  | .ifnonnull off => match st with
    | .null :: r => z_go (pc + 3) ls r h
    | .ref _ :: r => (z_tgt pc off).bind fun t => z_go t ls r h
    | .retAddr _ :: r => (z_tgt pc off).bind fun t => z_go t ls r h
    | _ => none
  | .getstatic idx => match z_lookup z_gss (z_own m, idx) with
    | some (k, _) => z_go (pc + 3) ls ((if k = 0 then .int 1 else .retAddr 97) :: st) h
    | none => none
  | .tableswitch d lo hi offs => match st with
    | .int x :: r => if x.toInt < lo ∨ hi < x.toInt then (z_tgt pc d).bind fun t => z_go t ls r h else (offs[(x.toInt - lo).toNat]?).bind fun o => (z_tgt pc o).bind fun t => z_go t ls r h
    | _ => none
  | .getfield idx => match st with
    | .ref a :: r => match z_fl (z_own m) idx, h.1 a with
      | some (ci, k, isR, _), some (.inr (ci', fs)) => if ci' = ci then match fs[k]? with
          | some (.int x) => if isR then none else z_go (pc + 3) ls (.int x :: r) h
          | some (.ref x) => if isR then z_go (pc + 3) ls (.ref x :: r) h else none
          | some .null => if isR then z_go (pc + 3) ls (.null :: r) h else none
          | _ => none
        else none
      | _, _ => none
    | .retAddr q :: r => match z_fl (z_own m) idx with
      | some (11, 0, _) => if q < 6 then z_go (pc + 3) ls (.retAddr (50 + q) :: r) h else none
      | some (11, 1, _) => if q < 6 then z_go (pc + 3) ls (.int 0 :: r) h else none
      | _ => none
    | _ => none
  | .putfield idx => match st with
    | v :: .ref a :: r => match z_fl (z_own m) idx, h.1 a with
      | some (ci, k, isR, fin), some (.inr (ci', fs)) => if ci' = ci ∧ k < fs.length ∧ (fin = true → z_isInit m = true ∧ z_dcl ci k = z_own m) ∧ z_vk v isR = true ∧ z_nrw ci k v = true then z_go (pc + 3) ls r (z_up h.1 a (.inr (ci, fs.set k v)), h.2) else none
      | _, _ => none
    | _ => none
  | .arraylength => match st with
    | .retAddr 99 :: r => z_go (pc + 1) ls (.int (nI g.1) :: r) h
    | .retAddr k :: r => if 50 ≤ k ∧ k < 56 then z_go (pc + 1) ls (.int (nI (z_lit (k - 50)).length) :: r) h else none
    | .ref a :: r => match h.1 a with
      | some (.inl (.byte, n, _)) => z_go (pc + 1) ls (.int (nI n) :: r) h
      | some (.inl (.boolean, n, _)) => z_go (pc + 1) ls (.int (nI n) :: r) h
      | _ => none
    | _ => none
  | .iaload | .baload | .aaload => match st with
    | .int j :: a :: r => (z_rd h g i a j).bind fun v => z_go (pc + 1) ls (v :: r) h
    | _ => none
  | .iastore | .bastore | .aastore => match st with
    | v :: .int j :: .ref a :: r => (z_wr h i a j v).bind fun h' => z_go (pc + 1) ls r h'
    | _ => none
  | .newarray t => match st with
    | .int n :: r => (z_na h t n).bind fun q => z_go (pc + 2) ls (.ref q.1 :: r) q.2
    | _ => none
  | .multianewarray idx dims => match st with
    | .int k :: .int n :: r => match z_lookup z_mas (z_own m, idx) with
      | some (0, _) => if dims = 2 then (z_ma2 .int h n k).bind fun q => z_go (pc + 4) ls (.ref q.1 :: r) q.2 else none
      | some (1, _) => if dims = 2 then (z_ma2 .boolean h n k).bind fun q => z_go (pc + 4) ls (.ref q.1 :: r) q.2 else none
      | some (2, _) => if dims = 3 then match r with
          | .int j :: r => (z_ma3 h j n k).bind fun q => z_go (pc + 4) ls (.ref q.1 :: r) q.2
          | _ => none
        else none
      | _ => none
    | _ => none
  | .anewarray idx => match st with
    | .int n :: r => match z_lookup z_ccs (z_own m, idx) with
      | some (0, _) => (z_an h n).bind fun q => z_go (pc + 3) ls (.ref q.1 :: r) q.2
      | _ => none
    | _ => none
  | .checkcast idx => match st with
    | .ref a :: r => match z_lookup z_ccs (z_own m, idx) with
      | some (k, _) => if z_cst h k a = true then z_go (pc + 3) ls (.ref a :: r) h else none
      | none => none
    | _ => none
  | .new idx => match z_nw (z_own m) idx with
    | some (ci, N, fs) => match h.2.1 with
      | some q => z_go (pc + 3) ls (.ref q :: st) (z_up h.1 q (.inr (ci, fs)), some (q + 1), h.2.2.1 + 1, h.2.2.2 + N)
      | none => none
    | none => (z_th m pc (z_own m) idx).bind fun E => if z_hds m = [] ∧ st = [] then some (.inr (.inr (E, (h.1, h.2.1.map (· + 1), h.2.2.1 + 1, h.2.2.2 + 6)))) else none
  | .invokespecial idx => match st with
    | .ref _ :: r => if (z_lookup z_ois (z_own m, idx)).isSome then (if r.length ≤ 8 ∧ ∀ v ∈ r, v.category = 1 then z_go (pc + 3) ls r h else none) else z_call 2 (z_own m) idx ls st h
    | _ => z_call 2 (z_own m) idx ls st h
  | .invokevirtual idx => match z_lookup z_cns (z_own m, idx) with
    | some (k, _) => match st with
      | .ref a :: r => if r.length ≤ 8 ∧ ∀ v ∈ r, v.category = 1 then (z_cln h k a).bind fun q => z_go (pc + 3) ls (.ref q.1 :: r) q.2 else none
      | _ => none
    | none => match z_lookup z_prs (z_own m, idx) with
      | some (p, _) => if z_isL p st = true ∧ st.length ≤ 8 ∧ ∀ v ∈ st, v.category = 1 then (z_prim p st).bind fun st' => z_go (pc + 3) ls st' h else none
      | none => z_call 0 (z_own m) idx ls st h
  | .invokestatic idx => match z_lookup z_cps (z_own m, idx) with
    | some _ => match st with
      | .int n :: .int dp :: .ref d :: .int sp :: src :: r => if r.length ≤ 8 ∧ ∀ v ∈ r, v.category = 1 then (z_cpy h src sp d dp n).bind fun h' => z_go (pc + 3) ls r h' else none
      | _ => none
    | none => match z_lookup z_prs (z_own m, idx) with
      | some (p, _) => if 2 ≤ p ∧ st.length ≤ 8 ∧ ∀ v ∈ st, v.category = 1 then (z_prim p st).bind fun st' => z_go (pc + 3) ls st' h else none
      | none => z_call 1 (z_own m) idx ls st h
  | .ireturn => z_ret m st
  | .areturn => z_reta m st
  | .return_ => if st = [] ∧ z_rt m = none then some (.inr (.inl none)) else none
  | _ => match z_bin i, st with
    | some f, .int y :: .int x :: r => z_go (pc + 1) ls (.int (f x y) :: r) h
    | _, _ => none
/-- an instruction's length, as decode tells it (0: any) -/
def z_len (i : Instr) : Nat := match i with
  | .bipush _ | .ldc _ | .iload _ | .aload _ | .istore _ | .astore _ | .newarray _ => 2
  | .sipush _ | .ldc_w _ | .iinc _ _ | .ifCond _ _ | .if_icmp _ _ | .goto _ | .getfield _ | .putfield _ | .new _ | .invokespecial _ | .invokevirtual _ | .invokestatic _ | .getstatic _ | .ifnull _ | .ifnonnull _ | .anewarray _ | .checkcast _ => 3
  | .multianewarray _ _ => 4
  | .tableswitch _ _ _ _ => 0
  | _ => 1
def z_sem (g : z_G) (m pc : Nat) (ls st : List Value) (h : z_H) : Option z_Act := match z_ins m pc with
  | some (i, n) => if z_len i = 0 ∨ n = z_len i then z_op g m pc i ls st h else none
  | none => none
def z_exn : List String := ["java/lang/IllegalArgumentException", "java/lang/IndexOutOfBoundsException", "java/lang/IllegalStateException"]
/-- the classes that a handler names -/
def z_exc : List String := ["java/lang/IllegalStateException"]
/-- the handler of a class of exceptions at a pc: the first row that covers it and names the class; where it goes on behind its astore, and the local that is lost -/
def z_hdF (own : String) (pc : Nat) (E : String) : List (Nat × Nat × Nat × Nat) → Option Nat
  | [] => none
  | (a, b, t, ci) :: r => if a ≤ pc ∧ pc < b then match z_lookup z_hcs (own, ci) with
      | some (nm, _) => if nm = E then some t else if E ∈ z_exn ∧ nm ∈ z_exc then z_hdF own pc E r else none
      | none => none
    else z_hdF own pc E r
def z_hd (m pc : Nat) (E : String) (ls : List Value) : Option (Nat × List Value) := match z_hdF (z_own m) pc E (z_hds m) with
  | some t => match z_ins m t with
    | some (.astore_n k, 1) => if (k : Nat) < ls.length then some (t + 1, ls.set k z_un) else none
    | some (.astore k, 2) => if k < ls.length then some (t + 2, ls.set k z_un) else none
    | _ => none
  | none => none
abbrev z_Res : Type := (String ⊕ Option Value) × z_H
def z_pad (m : Nat) (as : List Value) : List Value := as ++ List.replicate (z_maxL m - as.length) z_un
/-- a run: fuel, depth, method, pc, locals, stack, heap -/
def z_rn (g : z_G) : Nat → Nat → Nat → Nat → List Value → List Value → z_H → Option z_Res
  | 0, _, _, _, _, _, _ => none
  | n + 1, d, m, pc, ls, st, h => match z_sem g m pc ls st h with
    | none => none
    | some (.inl (.inl (pc', ls', st', h'))) => z_rn g n d m pc' ls' st' h'
    | some (.inl (.inr (m', as, r))) => match d with
      | 0 => none
      | d' + 1 => if as.length ≤ z_maxL m' then match z_rn g n d' m' 0 (z_pad m' as) [] h with
          | none => none
          | some (.inr v, h') => z_rn g n (d' + 1) m (pc + 3) ls (v.toList ++ r) h'
          | some (.inl E, h') => if z_jdk m = true then none else if z_hds m = [] then some (.inl E, h') else match z_hd m pc E ls with
            | some (pc', ls') => z_rn g n (d' + 1) m pc' ls' [] h'
            | none => none
        else none
    | some (.inr (.inl v)) => some (.inr v, h)
    | some (.inr (.inr (E, h'))) => some (.inl E, h')
