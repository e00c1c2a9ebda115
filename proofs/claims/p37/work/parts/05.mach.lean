/-! the abstract machine: heap cells by number (their kinds a list, their contents a function), references are numbers of cells; deterministic, by fuel -/
abbrev dm_G : Type := Nat → Nat → Value
abbrev dm_H : Type := List (Nat × Nat) × dm_G
abbrev dm_L : Type := List (Option Value)
abbrev dm_S : Type := Nat × dm_L × List Value × dm_H
abbrev dm_O : Type := dm_S ⊕ ((Option Value × dm_H) ⊕ (Nat × List Value × dm_S))
abbrev dm_Sc : Type := Option (Nat × (Nat → Int32))
def dm_up (σ : dm_G) (k j : Nat) (v : Value) : dm_G := fun a b => if a = k ∧ b = j then v else σ a b
def dm_i : Value → Int32 := fun v => match v with
  | .int x => x
  | _ => 0
def dm_r : Value → Option Nat := fun v => match v with
  | .ref a => some a
  | _ => none
def dm_nx (pc : Nat) (ls : dm_L) (st : List Value) (h : dm_H) : Option dm_O := some (.inl (pc, ls, st, h))
def dm_in (i : Int32) (n : Nat) : Bool := !(decide (i < 0) || decide (n ≤ i.toNatClampNeg))
def dm_s1 (m i : Nat) (ls : dm_L) : Bool := decide (i < ls.length) && !((mG m).any (fun g => g + 1 == i))
def dm_s2 (m i : Nat) (ls : dm_L) : Bool := decide (i + 1 < ls.length) && (mG m).contains i && !((mG m).any (fun g => g + 1 == i))
def dm_jo (pc : Nat) (off : Int) : Bool := decide (0 ≤ (pc : Int) + off)
def dm_jp (pc : Nat) (off : Int) : Nat := ((pc : Int) + off).toNat
def dm_nf (c : Nat) : Nat := match dm_cl[c]? with
  | some q => q.2.2
  | none => 0
def dm_fin (c k : Nat) : Bool := match dm_cl[c]? with
  | some q => (q.2.1 k).2.2.2
  | none => true
/-- may the value be stored in a field of the type: a reference to a cell that there is -/
def dm_fit (n : Nat) (t : FieldType) (v : Value) : Bool := match t, v with
  | .int, .int _ => true
  | .long, .long _ => true
  | .object _, .ref k => decide (k < n)
  | .array _, .ref k => decide (k < n)
  | _, _ => false
def dm_okv (n : Nat) (v : Value) : Bool := match v with
  | .ref k => decide (k < n)
  | _ => true
def dm_okl (n : Nat) (ls : dm_L) (st : List Value) : Bool := st.all (dm_okv n) && ls.all (fun o => match o with
  | some v => dm_okv n v
  | none => true)
def dm_al (ls : dm_L) (st : List Value) (h : dm_H) (kd : Nat × Nat) (pc : Nat) (g : Nat → Value) : Option dm_O :=
  if dm_okl h.1.length ls st then dm_nx pc ls (.ref h.1.length :: st) (h.1 ++ [kd], fun a b => if a = h.1.length then g b else h.2 a b) else none
def dm_aok (y : Nat) (as : List Value) : Bool := decide ((lg_sl as).length ≤ mX y) && (lv_args 0 as).all (fun q => q.2.category != 2 || (mG y).contains q.1)
def dm_rcv (kd y : Nat) (as : List Value) (h : dm_H) : Bool := match as with
  | .ref a :: _ => if kd == 0 || kd == 1 then (match h.1[a]? with
    | some (0, ci) => mO y == ci && decide (ci < 10)
    | _ => false) else true
  | _ => kd == 2 || kd == 3
/-- the room of what waits below a call -/
def dm_rk (r : List Value) : Bool := decide (r.length ≤ 4) || decide ((r.map fun v => v.category).sum ≤ 8)
def dm_iv (ks : List Nat) (m i pc : Nat) (ls : dm_L) (st : List Value) (h : dm_H) : Option dm_O := match rM (mO m) i with
  | none => none
  | some (y, kd) => if ks.contains kd then
      if kd == 7 then (match st with
        | .ref _ :: r => if decide (1 ≤ mF m) && decide (12 + 2 * r.length ≤ mL m) then dm_nx (pc + 3) ls r h else none
        | _ => none)
      else if kd == 8 || kd == 9 then (match st with
        | .int y :: .int x :: r => if decide (1 ≤ mF m) && decide (13 + 2 * r.length ≤ mL m) then dm_nx (pc + 3) ls (.int (if kd == 8 then (if x < y then y else x) else (if y < x then y else x)) :: r) h else none
        | _ => none)
      else
        let n := mN y + (if kd == 2 || kd == 3 then 0 else 1)
        if decide ((st.take n).length = n) && dm_rk (st.drop n) && decide (mF y + 1 ≤ mF m) && decide (8 + (mX y + 11) + mL y ≤ mL m) && dm_aok y (st.take n).reverse && dm_rcv kd y (st.take n).reverse h then
          some (.inr (.inr (y, (st.take n).reverse, (pc + 3, ls, st.drop n, h)))) else none
    else none
def dm_cmp (cd : ClassFile.Cond) (x y : Int32) : Bool := match cd with
  | .eq => decide (x = y)
  | .ne => decide (¬ x = y)
  | .lt => decide (x < y)
  | .ge => decide (y ≤ x)
  | .gt => decide (y < x)
  | .le => decide (x ≤ y)
def dm_ld1 (ls : dm_L) (i pc : Nat) (st : List Value) (h : dm_H) : Option dm_O := match ls[i]? with
  | some (some (.int x)) => dm_nx pc ls (.int x :: st) h
  | _ => none
def dm_ldl (ls : dm_L) (i pc : Nat) (st : List Value) (h : dm_H) : Option dm_O := match ls[i]? with
  | some (some (.long x)) => dm_nx pc ls (.long x :: st) h
  | _ => none
def dm_lda (ls : dm_L) (i pc : Nat) (st : List Value) (h : dm_H) : Option dm_O := match ls[i]? with
  | some (some (.ref x)) => dm_nx pc ls (.ref x :: st) h
  | some (some (.retAddr x)) => dm_nx pc ls (.retAddr x :: st) h
  | _ => none
def dm_sti (m : Nat) (ls : dm_L) (i pc : Nat) (st : List Value) (h : dm_H) : Option dm_O := match st with
  | .int x :: r => if dm_s1 m i ls then dm_nx pc (ls.set i (some (.int x))) r h else none
  | _ => none
def dm_sta (m : Nat) (ls : dm_L) (i pc : Nat) (st : List Value) (h : dm_H) : Option dm_O := match st with
  | .ref x :: r => if dm_s1 m i ls then dm_nx pc (ls.set i (some (.ref x))) r h else none
  | _ => none
def dm_stl (m : Nat) (ls : dm_L) (i pc : Nat) (st : List Value) (h : dm_H) : Option dm_O := match st with
  | .long x :: r => if dm_s2 m i ls then dm_nx pc ((ls.set i (some (.long x))).set (i + 1) none) r h else none
  | _ => none
def dm_ii (f : Int32 → Int32 → Int32) (pc : Nat) (ls : dm_L) (st : List Value) (h : dm_H) : Option dm_O := match st with
  | .int y :: .int x :: r => dm_nx (pc + 1) ls (.int (f x y) :: r) h
  | _ => none
def dm_iid (f : Int32 → Int32 → Int32) (pc : Nat) (ls : dm_L) (st : List Value) (h : dm_H) : Option dm_O := match st with
  | .int y :: .int x :: r => if decide (y = 0) then none else dm_nx (pc + 1) ls (.int (f x y) :: r) h
  | _ => none
def dm_jj (f : Int64 → Int64 → Int64) (pc : Nat) (ls : dm_L) (st : List Value) (h : dm_H) : Option dm_O := match st with
  | .long y :: .long x :: r => dm_nx (pc + 1) ls (.long (f x y) :: r) h
  | _ => none
def dm_jjd (f : Int64 → Int64 → Int64) (pc : Nat) (ls : dm_L) (st : List Value) (h : dm_H) : Option dm_O := match st with
  | .long y :: .long x :: r => if decide (y = 0) then none else dm_nx (pc + 1) ls (.long (f x y) :: r) h
  | _ => none
def dm_br (c : Bool) (off : Int) (pc : Nat) (ls : dm_L) (r : List Value) (h : dm_H) : Option dm_O :=
  if dm_jo pc off then dm_nx (if c then dm_jp pc off else pc + 3) ls r h else none
def dm_sw (pc : Nat) (off : Option Int) (ls : dm_L) (r : List Value) (h : dm_H) : Option dm_O := match off with
  | some o => if dm_jo pc o then dm_nx (dm_jp pc o) ls r h else none
  | none => none
/-- one instruction -/
def dm_x (scr : dm_Sc) (m : Nat) (ins : Instr) (pc : Nat) (ls : dm_L) (st : List Value) (h : dm_H) : Option dm_O := match ins with
  | .iconst n => dm_nx (pc + 1) ls (.int (Int32.ofInt n) :: st) h
  | .bipush n => dm_nx (pc + 2) ls (.int (Int8.ofInt n).toInt32 :: st) h
  | .sipush n => dm_nx (pc + 3) ls (.int (Int16.ofInt n).toInt32 :: st) h
  | .ldc i => (match rC (mO m) i with
    | some v => dm_nx (pc + 2) ls (.int v :: st) h
    | none => none)
  | .ldc_w i => (match rC (mO m) i with
    | some v => dm_nx (pc + 3) ls (.int v :: st) h
    | none => none)
  | .ldc2_w i => (match rL (mO m) i with
    | some v => dm_nx (pc + 3) ls (.long v :: st) h
    | none => none)
  | .lconst n => dm_nx (pc + 1) ls (.long (Int64.ofNat n) :: st) h
  | .aconst_null => dm_nx (pc + 1) ls (.null :: st) h
  | .iload i => dm_ld1 ls i (pc + 2) st h
  | .iload_n k => dm_ld1 ls k (pc + 1) st h
  | .lload i => dm_ldl ls i (pc + 2) st h
  | .lload_n k => dm_ldl ls k (pc + 1) st h
  | .aload i => dm_lda ls i (pc + 2) st h
  | .aload_n k => dm_lda ls k (pc + 1) st h
  | .istore i => dm_sti m ls i (pc + 2) st h
  | .istore_n k => dm_sti m ls k (pc + 1) st h
  | .astore i => dm_sta m ls i (pc + 2) st h
  | .astore_n k => dm_sta m ls k (pc + 1) st h
  | .lstore i => dm_stl m ls i (pc + 2) st h
  | .lstore_n k => dm_stl m ls k (pc + 1) st h
  | .iinc i n => (match ls[i]? with
    | some (some (.int x)) => if dm_s1 m i ls then dm_nx (pc + 3) (ls.set i (some (.int (x + Int32.ofInt n)))) st h else none
    | _ => none)
  | .iadd => dm_ii (fun x y => x + y) pc ls st h
  | .isub => dm_ii (fun x y => x - y) pc ls st h
  | .imul => dm_ii (fun x y => x * y) pc ls st h
  | .iand => dm_ii (fun x y => x &&& y) pc ls st h
  | .ior => dm_ii (fun x y => x ||| y) pc ls st h
  | .ixor => dm_ii (fun x y => x ^^^ y) pc ls st h
  | .ishl => dm_ii (fun x y => x <<< (y &&& 31)) pc ls st h
  | .ishr => dm_ii (fun x y => x >>> (y &&& 31)) pc ls st h
  | .iushr => dm_ii (fun x y => (x.toUInt32 >>> (y.toUInt32 &&& Int32.toUInt32 31)).toInt32) pc ls st h
  | .idiv => dm_iid (fun x y => x / y) pc ls st h
  | .irem => dm_iid (fun x y => x - x / y * y) pc ls st h
  | .ladd => dm_jj (fun x y => x + y) pc ls st h
  | .lmul => dm_jj (fun x y => x * y) pc ls st h
  | .land => dm_jj (fun x y => x &&& y) pc ls st h
  | .ldiv => dm_jjd (fun x y => x / y) pc ls st h
  | .lrem => dm_jjd (fun x y => x - x / y * y) pc ls st h
  | .lcmp => (match st with
    | .long y :: .long x :: r => dm_nx (pc + 1) ls (.int (lg_cmp x y) :: r) h
    | _ => none)
  | .i2l => (match st with
    | .int x :: r => dm_nx (pc + 1) ls (.long x.toInt64 :: r) h
    | _ => none)
  | .l2i => (match st with
    | .long x :: r => dm_nx (pc + 1) ls (.int x.toInt32 :: r) h
    | _ => none)
  | .dup => (match st with
    | v :: r => if v.category == 1 then dm_nx (pc + 1) ls (v :: v :: r) h else none
    | _ => none)
  | .dup2 => (match st with
    | v :: w :: r => if v.category == 1 && w.category == 1 then dm_nx (pc + 1) ls (v :: w :: v :: w :: r) h else none
    | _ => none)
  | .pop => (match st with
    | v :: r => if v.category == 1 then dm_nx (pc + 1) ls r h else none
    | _ => none)
  | .goto off => dm_sw pc (some off) ls st h
  | .if_icmp cd off => (match st with
    | .int y :: .int x :: r => dm_br (dm_cmp cd x y) off pc ls r h
    | _ => none)
  | .ifCond cd off => (match st with
    | .int x :: r => dm_br (dm_cmp cd x 0) off pc ls r h
    | _ => none)
  | .ifnull _ => (match st with
    | .ref _ :: r => dm_nx (pc + 3) ls r h
    | _ => none)
  | .tableswitch d lo hi offs => (match st with
    | .int x :: r => dm_sw pc (if decide (x.toInt < lo) || decide (hi < x.toInt) then some d else offs[(x.toInt - lo).toNat]?) ls r h
    | _ => none)
  | .lookupswitch d ps => (match st with
    | .int x :: r => if (ps.toList.zip (ps.toList.drop 1)).all (fun (a, next) => a.1 < next.1) then dm_sw pc (some (Op.lookupswitch.offset ps.toList d x.toInt)) ls r h else none
    | _ => none)
  | .getfield i => (match st with
    | .ref a :: r => (match rF (mO m) i, h.1[a]? with
      | some (ci, k, _), some (0, c) => if c == ci then dm_nx (pc + 3) ls (h.2 a k :: r) h else none
      | _, _ => none)
    | _ => none)
  | .putfield i => (match st with
    | v :: .ref a :: r => (match rF (mO m) i, h.1[a]? with
      | some (ci, k, nest), some (0, c) => if c == ci && dm_fit h.1.length (dm_tyf ci k) v && (!dm_fin ci k || (!nest && (mY m).name == "<init>" && mO m == ci)) then dm_nx (pc + 3) ls r (h.1, dm_up h.2 a k v) else none
      | _, _ => none)
    | _ => none)
  | .iaload => (match st with
    | .int i :: .ref a :: r => (match h.1[a]? with
      | some (1, n) => if dm_in i n then dm_nx (pc + 1) ls (.int (dm_i (h.2 a i.toNatClampNeg)) :: r) h else none
      | _ => none)
    | .int i :: .retAddr _ :: r => (match scr with
      | some (n, xs) => if dm_in i n then dm_nx (pc + 1) ls (.int (xs i.toNatClampNeg) :: r) h else none
      | none => none)
    | _ => none)
  | .iastore => (match st with
    | .int x :: .int i :: .ref a :: r => (match h.1[a]? with
      | some (1, n) => if dm_in i n then dm_nx (pc + 1) ls r (h.1, dm_up h.2 a i.toNatClampNeg (.int x)) else none
      | _ => none)
    | _ => none)
  | .baload => (match st with
    | .int i :: .ref a :: r => (match h.1[a]? with
      | some (2, n) => if dm_in i n then dm_nx (pc + 1) ls (.int (dm_i (h.2 a i.toNatClampNeg)) :: r) h else none
      | _ => none)
    | _ => none)
  | .bastore => (match st with
    | .int x :: .int i :: .ref a :: r => (match h.1[a]? with
      | some (2, n) => if dm_in i n then dm_nx (pc + 1) ls r (h.1, dm_up h.2 a i.toNatClampNeg (.int (vp_nar .boolean x))) else none
      | _ => none)
    | _ => none)
  | .aaload => (match st with
    | .int i :: .ref a :: r => (match h.1[a]? with
      | some (3, n) => if dm_in i n then (match h.2 a i.toNatClampNeg with
        | .ref k => dm_nx (pc + 1) ls (.ref k :: r) h
        | _ => none) else none
      | _ => none)
    | _ => none)
  | .aastore => (match st with
    | .ref k :: .int i :: .ref a :: r => (match h.1[a]?, h.1[k]? with
      | some (3, n), some (0, 7) => if dm_in i n then dm_nx (pc + 1) ls r (h.1, dm_up h.2 a i.toNatClampNeg (.ref k)) else none
      | _, _ => none)
    | _ => none)
  | .arraylength => (match st with
    | .ref a :: r => (match h.1[a]? with
      | some (t + 1, n) => dm_nx (pc + 1) ls (.int (Int32.ofNat n) :: r) h
      | _ => none)
    | .retAddr _ :: r => (match scr with
      | some (n, _) => dm_nx (pc + 1) ls (.int (Int32.ofNat n) :: r) h
      | none => none)
    | _ => none)
  | .new i => (match rN (mO m) i with
    | some ci => dm_al ls st h (0, ci) (pc + 3) (fun j => defaultValue (dm_tyf ci j))
    | none => none)
  | .newarray t => (match st with
    | .int n :: r => if decide (n < 0) || decide (10000 < n.toNatClampNeg) then none else (match t with
      | .int => dm_al ls r h (1, n.toNatClampNeg) (pc + 2) (fun _ => .int 0)
      | _ => none)
    | _ => none)
  | .anewarray i => (match st with
    | .int n :: r => if decide (n < 0) || decide (10000 < n.toNatClampNeg) then none else (match rN (mO m) i with
      | some 7 => dm_al ls r h (3, n.toNatClampNeg) (pc + 3) (fun _ => .null)
      | _ => none)
    | _ => none)
  | .invokevirtual i => dm_iv [0, 1] m i pc ls st h
  | .invokestatic i => dm_iv [2, 3, 8, 9] m i pc ls st h
  | .invokespecial i => dm_iv [5, 6, 7] m i pc ls st h
  | .ireturn => (match st with
    | [.int x] => (match mR m with
      | some t => if decide (narrow t (.int x) = .int x) then some (.inr (.inl (some (.int x), h))) else none
      | none => none)
    | _ => none)
  | .areturn => (match st with
    | [.ref x] => (match mR m with
      | some (.object _) => some (.inr (.inl (some (.ref x), h)))
      | some (.array _) => some (.inr (.inl (some (.ref x), h)))
      | _ => none)
    | _ => none)
  | .return_ => (match st with
    | [] => (match mR m with
      | none => some (.inr (.inl (none, h)))
      | some _ => none)
    | _ => none)
  | _ => none
/-- an instruction's length in bytes (0: any) -/
def dm_len (ins : Instr) : Nat := match ins with
  | .bipush _ | .ldc _ | .iload _ | .lload _ | .aload _ | .istore _ | .astore _ | .lstore _ | .newarray _ => 2
  | .sipush _ | .ldc_w _ | .ldc2_w _ | .iinc _ _ | .goto _ | .if_icmp _ _ | .ifCond _ _ | .ifnull _ | .getfield _ | .putfield _ | .new _ | .anewarray _ | .invokevirtual _ | .invokestatic _ | .invokespecial _ => 3
  | .tableswitch _ _ _ _ | .lookupswitch _ _ => 0
  | _ => 1
def dm_st (scr : dm_Sc) (m : Nat) (S : dm_S) : Option dm_O := match decode (mB m) S.1 with
  | .ok (ins, len) => if dm_len ins == 0 || dm_len ins == len then dm_x scr m ins S.1 S.2.1 S.2.2.1 S.2.2.2 else none
  | _ => none
/-- a method's locals at its start -/
def dm_ia (as : List Value) : dm_L := as.flatMap fun v => if v.category = 2 then [some v, none] else [some v]
def dm_in0 (y : Nat) (as : List Value) : dm_L := dm_ia as ++ List.replicate (mX y - (dm_ia as).length) none
/-- the script goes along into the law's own methods -/
def dm_sc (scr : dm_Sc) (y : Nat) : dm_Sc := if mO y = 13 then scr else none
def dm_run (scr : dm_Sc) : Nat → Nat → dm_S → Option (Option Value × dm_H) := fun n => match n with
  | 0 => fun _ _ => none
  | n + 1 => fun m S => match dm_st scr m S with
    | none => none
    | some (.inl S') => dm_run scr n m S'
    | some (.inr (.inl R)) => some R
    | some (.inr (.inr (y, as, (pc, ls, st, h)))) => match dm_run (dm_sc scr y) n y (0, dm_in0 y as, [], h) with
      | none => none
      | some (r, h') => if decide (h'.1 = h.1) || dm_okl h.1.length ls st then dm_run scr n m (pc, ls, r.toList ++ st, h') else none
