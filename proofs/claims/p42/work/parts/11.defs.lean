/-! THE PURE MACHINE, its words: see 20 -/
noncomputable section
-- a cell: an int array; an array of references (the number of its class in zz_ty); an object (the number of its class in 'classes', its fields). Reference i is cell i
noncomputable abbrev zz_C : Type := List Int32 ⊕ ((Nat × List (Option Nat)) ⊕ (Nat × List Value))
-- the cells, 'none' for one that isn't spoken of; place 0 is kept for the law's script and is always 'none'
noncomputable abbrev zz_W : Type := List (Option zz_C)
noncomputable def zz_ld (L : List (Option Value)) (i : Nat) : Option Value := match L[i]? with
  | some (some v) => some v
  | _ => none
/-- a store clears a long or double that lay one place before -/
noncomputable def zz_cl (L : List (Option Value)) (i : Nat) : List (Option Value) := match i with
  | 0 => L
  | j + 1 => match zz_ld L j with
    | some w => if w.category = 2 then L.set j none else L
    | none => L
noncomputable def zz_sv (L : List (Option Value)) (i : Nat) (v : Value) : List (Option Value) := if v.category = 2 then ((zz_cl L i).set i (some v)).set (i + 1) none else (zz_cl L i).set i (some v)
noncomputable def zz_len : Instr → Nat
  | .bipush _ => 2
  | .iload _ => 2
  | .istore _ => 2
  | .aload _ => 2
  | .astore _ => 2
  | .lload _ => 2
  | .lstore _ => 2
  | .ldc _ => 2
  | .newarray _ => 2
  | .sipush _ => 3
  | .ifCond _ _ => 3
  | .if_icmp _ _ => 3
  | .goto _ => 3
  | .iinc _ _ => 3
  | .getfield _ => 3
  | .putfield _ => 3
  | .ldc_w _ => 3
  | .ldc2_w _ => 3
  | .invokevirtual _ => 3
  | .invokespecial _ => 3
  | .invokestatic _ => 3
  | .new _ => 3
  | .anewarray _ => 3
  | .multianewarray _ _ => 4
  | .tableswitch _ _ _ _ => 0
  | .lookupswitch _ _ => 0
  | _ => 1
noncomputable def zz_tg (pc : Nat) (off : Int) : Option Nat := match (pc : Int) + off with
  | .ofNat t => some t
  | .negSucc _ => none
noncomputable def zz_br (b : Bool) (pc : Nat) (off : Int) : Option Nat := match zz_tg pc off with
  | some t => some (match b with
    | true => t
    | false => pc + 3)
  | none => none
noncomputable def zz_if (op : ClassFile.Cond) (x : Int32) : Bool := match op with
  | .eq => decide (x = 0)
  | .ne => !decide (x = 0)
  | .lt => decide (x < 0)
  | .ge => decide (0 ≤ x)
  | .gt => decide (0 < x)
  | .le => decide (x ≤ 0)
noncomputable def zz_ic (op : ClassFile.Cond) (x y : Int32) : Bool := match op with
  | .eq => decide (x = y)
  | .ne => !decide (x = y)
  | .lt => decide (x < y)
  | .ge => decide (y ≤ x)
  | .gt => decide (y < x)
  | .le => decide (x ≤ y)
noncomputable abbrev zz_O : Type := Option (Nat × List (Option Value) × List Value)
noncomputable def zz_pi (n : Nat) (L : List (Option Value)) (v : Option Value) (st : List Value) : zz_O := match v with
  | some (.int x) => some (n, L, .int x :: st)
  | _ => none
noncomputable def zz_pl (n : Nat) (L : List (Option Value)) (v : Option Value) (st : List Value) : zz_O := match v with
  | some (.long x) => some (n, L, .long x :: st)
  | _ => none
noncomputable def zz_pr (n : Nat) (L : List (Option Value)) (v : Option Value) (st : List Value) : zz_O := match v with
  | some (.ref x) => some (n, L, .ref x :: st)
  | _ => none
noncomputable def zz_si (n : Nat) (L : List (Option Value)) (i : Nat) (st : List Value) : zz_O := match st with
  | .int x :: r => if i < L.length then some (n, zz_sv L i (.int x), r) else none
  | _ => none
noncomputable def zz_sl (n : Nat) (L : List (Option Value)) (i : Nat) (st : List Value) : zz_O := match st with
  | .long x :: r => if i + 1 < L.length then some (n, zz_sv L i (.long x), r) else none
  | _ => none
noncomputable def zz_sr (n : Nat) (L : List (Option Value)) (i : Nat) (st : List Value) : zz_O := match st with
  | .ref x :: r => if i < L.length then some (n, zz_sv L i (.ref x), r) else none
  | _ => none
noncomputable def zz_i2 (n : Nat) (L : List (Option Value)) (st : List Value) (f : Int32 → Int32 → Int32) : zz_O := match st with
  | .int y :: .int x :: r => some (n, L, .int (f x y) :: r)
  | _ => none
noncomputable def zz_i2n (n : Nat) (L : List (Option Value)) (st : List Value) (f : Int32 → Int32 → Int32) : zz_O := match st with
  | .int y :: .int x :: r => if y = 0 then none else some (n, L, .int (f x y) :: r)
  | _ => none
noncomputable def zz_l2 (n : Nat) (L : List (Option Value)) (st : List Value) (f : Int64 → Int64 → Int64) : zz_O := match st with
  | .long y :: .long x :: r => some (n, L, .long (f x y) :: r)
  | _ => none
noncomputable def zz_l2n (n : Nat) (L : List (Option Value)) (st : List Value) (f : Int64 → Int64 → Int64) : zz_O := match st with
  | .long y :: .long x :: r => if y = 0 then none else some (n, L, .long (f x y) :: r)
  | _ => none
noncomputable def zz_go (L : List (Option Value)) (st : List Value) (t : Option Nat) : zz_O := match t with
  | some t => some (t, L, st)
  | none => none
noncomputable def zz_da (ins : Instr) (pc : Nat) (L : List (Option Value)) (st : List Value) : zz_O := match ins with
  | .iconst n => some (pc + 1, L, .int (Int32.ofInt n) :: st)
  | .bipush n => some (pc + 2, L, .int (Int8.ofInt n).toInt32 :: st)
  | .sipush n => some (pc + 3, L, .int (Int16.ofInt n).toInt32 :: st)
  | .lconst n => some (pc + 1, L, .long (Int64.ofNat (n : Nat)) :: st)
  | .iload_n k => zz_pi (pc + 1) L (zz_ld L k) st
  | .iload k => zz_pi (pc + 2) L (zz_ld L k) st
  | .lload_n k => zz_pl (pc + 1) L (zz_ld L k) st
  | .lload k => zz_pl (pc + 2) L (zz_ld L k) st
  | .aload_n k => zz_pr (pc + 1) L (zz_ld L k) st
  | .aload k => zz_pr (pc + 2) L (zz_ld L k) st
  | .istore_n k => zz_si (pc + 1) L k st
  | .istore k => zz_si (pc + 2) L k st
  | .lstore_n k => zz_sl (pc + 1) L k st
  | .lstore k => zz_sl (pc + 2) L k st
  | .astore_n k => zz_sr (pc + 1) L k st
  | .astore k => zz_sr (pc + 2) L k st
  | .iinc k n => match zz_ld L k with
    | some (.int x) => some (pc + 3, zz_sv L k (.int (x + Int32.ofInt n)), st)
    | _ => none
  | .iadd => zz_i2 (pc + 1) L st (· + ·)
  | .isub => zz_i2 (pc + 1) L st (· - ·)
  | .imul => zz_i2 (pc + 1) L st (· * ·)
  | .iand => zz_i2 (pc + 1) L st (· &&& ·)
  | .ior => zz_i2 (pc + 1) L st (· ||| ·)
  | .ixor => zz_i2 (pc + 1) L st (· ^^^ ·)
  | .ishl => zz_i2 (pc + 1) L st (fun x y => x <<< (y &&& 31))
  | .ishr => zz_i2 (pc + 1) L st (fun x y => x >>> (y &&& 31))
  | .iushr => zz_i2 (pc + 1) L st (fun x y => (x.toUInt32 >>> (y.toUInt32 &&& Int32.toUInt32 31)).toInt32)
  | .idiv => zz_i2n (pc + 1) L st (· / ·)
  | .irem => zz_i2n (pc + 1) L st (fun x y => x - x / y * y)
  | .ineg => match st with
    | .int x :: r => some (pc + 1, L, .int (-x) :: r)
    | _ => none
  | .i2l => match st with
    | .int x :: r => some (pc + 1, L, .long x.toInt64 :: r)
    | _ => none
  | .l2i => match st with
    | .long x :: r => some (pc + 1, L, .int x.toInt32 :: r)
    | _ => none
  | .ladd => zz_l2 (pc + 1) L st (· + ·)
  | .lsub => zz_l2 (pc + 1) L st (· - ·)
  | .lmul => zz_l2 (pc + 1) L st (· * ·)
  | .ldiv => zz_l2n (pc + 1) L st (· / ·)
  | .lrem => zz_l2n (pc + 1) L st (fun x y => x - x / y * y)
  | .lcmp => match st with
    | .long y :: .long x :: r => some (pc + 1, L, .int (lg_cmp x y) :: r)
    | _ => none
  | .dup => match st with
    | v :: r => if v.category = 1 then some (pc + 1, L, v :: v :: r) else none
    | _ => none
  | .pop => match st with
    | v :: r => if v.category = 1 then some (pc + 1, L, r) else none
    | _ => none
  | .dup2 => match st with
    | v :: w :: r => if v.category = 1 ∧ w.category = 1 then some (pc + 1, L, v :: w :: v :: w :: r) else none
    | _ => none
  | .goto off => zz_go L st (zz_tg pc off)
  | .ifCond op off => match st with
    | .int x :: r => zz_go L r (zz_br (zz_if op x) pc off)
    | _ => none
  | .if_icmp op off => match st with
    | .int y :: .int x :: r => zz_go L r (zz_br (zz_ic op x y) pc off)
    | _ => none
  | .tableswitch dflt lo hi offs => match st with
    | .int x :: r => if x.toInt < lo ∨ hi < x.toInt then zz_go L r (zz_tg pc dflt) else match offs[(x.toInt - lo).toNat]? with
      | some off => zz_go L r (zz_tg pc off)
      | none => none
    | _ => none
  | .lookupswitch dflt ps => match st with
    | .int x :: r => if (ps.toList.zip (ps.toList.drop 1)).all (fun (a, next) => a.1 < next.1) = true then zz_go L r (zz_tg pc (Op.lookupswitch.offset ps.toList dflt x.toInt)) else none
    | _ => none
  | _ => none
-- words of the tables that stay as classes warm up
noncomputable def zz_good : Jvm.Cond → Bool
  | .arrayClass _ => true
  | .fieldLinkNest .. => true
  | .methodLinkNest .. => true
  | .arrayOver (.object _) => true
  | .arrayOver (.array _) => true
  | .castable _ _ => true
  | w => w.onTables && w.keeps
noncomputable def zz_wd (i : Nat) (w : Jvm.Cond) : Bool := match zz_look i with
  | some v => decide (v = w) && zz_good w
  | none => false
-- a class: its fields' types are types, their names differ, its words stand in the tables
noncomputable def zz_cok (q : vw_C) : Bool := (List.range q.2.2).all (fun k => (parseFieldDescriptor (q.2.1 k).2.2.1).isSome && ((List.range q.2.2).all (fun j => decide (k = j) || !decide ((q.2.1 k).2.1 = (q.2.1 j).2.1)) && (decide (u_lay q.1 q.2.1 k ∈ lw_tbl) && zz_good (u_lay q.1 q.2.1 k))))
noncomputable def zz_ft (q : vw_C) (k : Nat) : FieldType := (parseFieldDescriptor (q.2.1 k).2.2.1).getD .int
-- the type of a field as a number: int, boolean, a reference, long
noncomputable def zz_tc (tc : Nat) (ty : FieldType) : Bool := match tc with
  | 0 => decide (ty = .int)
  | 1 => decide (ty = .boolean)
  | 2 => ty.isReference
  | 3 => decide (ty = .long)
  | _ => false
noncomputable def zz_fit (tc : Nat) (v : Value) : Bool := match tc with
  | 0 => match v with
    | .int _ => true
    | _ => false
  | 1 => match v with
    | .int x => decide (x = 0) || decide (x = 1)
    | _ => false
  | 2 => match v with
    | .ref _ => true
    | .null => true
    | _ => false
  | 3 => match v with
    | .long _ => true
    | _ => false
  | _ => false
noncomputable abbrev zz_O2 : Type := Option (Nat × List (Option Value) × List Value × zz_W)
noncomputable def zz_cell (cs : zz_W) (i : Nat) : Option zz_C := match cs[i]? with
  | some (some c) => some c
  | _ => none
/-- a cell, looked up quickly; a cell set; how many cells -/
noncomputable def zz_cq (cs : zz_W) (i : Nat) : Option zz_C := match zz_pth cs i with
  | some (some c) => some c
  | _ => none
theorem zz_cq_eq (cs : zz_W) (i : Nat) : zz_cq cs i = zz_cell cs i := by
  unfold zz_cq zz_cell
  rw [zz_pth_eq]
noncomputable def zz_stq {α : Type} (l : List α) (i : Nat) (x : α) : List α := List.rec (motive := fun _ => Nat → List α) (fun _ => []) (fun a t ih i => Nat.rec (motive := fun _ => List α) (x :: t) (fun j _ => a :: ih j) i) l i
theorem zz_stq_eq {α : Type} : ∀ (l : List α) (i : Nat) (x : α), zz_stq l i x = l.set i x
  | [], _, _ => by
    rw [List.set_nil]
    rfl
  | _ :: _, 0, _ => rfl
  | a :: t, i + 1, x => by
    show a :: zz_stq t i x = a :: t.set i x
    rw [zz_stq_eq t i x]
noncomputable def zz_lnq {α : Type} (l : List α) : Nat := List.rec (motive := fun _ => Nat) 0 (fun _ _ ih => Nat.succ ih) l
theorem zz_lnq_eq {α : Type} : ∀ (l : List α), zz_lnq l = l.length
  | [] => rfl
  | _ :: t => by
    show Nat.succ (zz_lnq t) = Nat.succ t.length
    rw [zz_lnq_eq t]
noncomputable def zz_rt (t : Nat) : Bool := match zz_ty[t]? with
  | some ty => ty.isReference
  | none => false
noncomputable def zz_ix (j : Int32) (n : Nat) : Bool := !decide (j < 0) && decide (j.toNatClampNeg < n)
-- numbers of an instruction: getfield, putfield: class, field, word, type (of a putfield); aastore: the array's class, the stored object's, word
noncomputable def zz_db (ins : Instr) (r : List Nat) (v0 : Value) (pc : Nat) (L : List (Option Value)) (st : List Value) (cs : zz_W) : zz_O2 := match ins with
  | .getfield _ => match r with
    | [ci, k, _] => match st with
      | .ref i :: rest => match zz_cell cs i with
        | some (.inr (.inr (cj, fs))) => if cj = ci then (match fs[k]? with
          | some v => some (pc + 3, L, v :: rest, cs)
          | none => none) else none
        | _ => none
      | _ => none
    | _ => none
  | .putfield _ => match r with
    | [ci, k, _, tc] => match st with
      | v :: .ref i :: rest => match zz_cell cs i with
        | some (.inr (.inr (cj, fs))) => if cj = ci ∧ k < fs.length ∧ zz_fit tc v = true then some (pc + 3, L, rest, cs.set i (some (.inr (.inr (ci, fs.set k v))))) else none
        | _ => none
      | _ => none
    | _ => none
  | .iaload => match st with
    | .int j :: .ref i :: rest => match zz_cell cs i with
      | some (.inl xs) => if zz_ix j xs.length = true then some (pc + 1, L, .int (xs.getD j.toNatClampNeg 0) :: rest, cs) else none
      | _ => none
    | _ => none
  | .iastore => match st with
    | .int x :: .int j :: .ref i :: rest => match zz_cell cs i with
      | some (.inl xs) => if zz_ix j xs.length = true then some (pc + 1, L, rest, cs.set i (some (.inl (xs.set j.toNatClampNeg x)))) else none
      | _ => none
    | _ => none
  | .aaload => match st with
    | .int j :: .ref i :: rest => match zz_cell cs i with
      | some (.inr (.inl (t, rs))) => if zz_ix j rs.length = true ∧ zz_rt t = true then some (pc + 1, L, va_rf (rs.getD j.toNatClampNeg none) :: rest, cs) else none
      | _ => none
    | _ => none
  | .aastore => match r with
    | [t, ci, _] => match st with
      | .ref v :: .int j :: .ref i :: rest => match zz_cell cs i with
        | some (.inr (.inl (u, rs))) => match zz_cell cs v with
          | some (.inr (.inr (cj, _))) => if u = t ∧ cj = ci ∧ zz_ix j rs.length = true then some (pc + 1, L, rest, cs.set i (some (.inr (.inl (t, rs.set j.toNatClampNeg (some v)))))) else none
          | _ => none
        | _ => none
      | _ => none
    | _ => none
  | .arraylength => match st with
    | .ref i :: rest => match zz_cell cs i with
      | some (.inl xs) => some (pc + 1, L, .int (Int32.ofNat xs.length) :: rest, cs)
      | some (.inr (.inl (t, rs))) => if zz_rt t = true then some (pc + 1, L, .int (Int32.ofNat rs.length) :: rest, cs) else none
      | _ => none
    | _ => none
  | .ldc _ => some (pc + 2, L, v0 :: st, cs)
  | .ldc_w _ => some (pc + 3, L, v0 :: st, cs)
  | .ldc2_w _ => some (pc + 3, L, v0 :: st, cs)
  | _ => none
noncomputable def zz_dbq (ins : Instr) (r : List Nat) (v0 : Value) (pc : Nat) (L : List (Option Value)) (st : List Value) (cs : zz_W) : zz_O2 := match ins with
  | .getfield _ => match r with
    | [ci, k, _] => match st with
      | .ref i :: rest => match zz_cq cs i with
        | some (.inr (.inr (cj, fs))) => if cj = ci then (match fs[k]? with
          | some v => some (pc + 3, L, v :: rest, cs)
          | none => none) else none
        | _ => none
      | _ => none
    | _ => none
  | .putfield _ => match r with
    | [ci, k, _, tc] => match st with
      | v :: .ref i :: rest => match zz_cq cs i with
        | some (.inr (.inr (cj, fs))) => if cj = ci ∧ k < fs.length ∧ zz_fit tc v = true then some (pc + 3, L, rest, zz_stq cs i (some (.inr (.inr (ci, fs.set k v))))) else none
        | _ => none
      | _ => none
    | _ => none
  | .iaload => match st with
    | .int j :: .ref i :: rest => match zz_cq cs i with
      | some (.inl xs) => if zz_ix j xs.length = true then some (pc + 1, L, .int (xs.getD j.toNatClampNeg 0) :: rest, cs) else none
      | _ => none
    | _ => none
  | .iastore => match st with
    | .int x :: .int j :: .ref i :: rest => match zz_cq cs i with
      | some (.inl xs) => if zz_ix j xs.length = true then some (pc + 1, L, rest, zz_stq cs i (some (.inl (xs.set j.toNatClampNeg x)))) else none
      | _ => none
    | _ => none
  | .aaload => match st with
    | .int j :: .ref i :: rest => match zz_cq cs i with
      | some (.inr (.inl (t, rs))) => if zz_ix j rs.length = true ∧ zz_rt t = true then some (pc + 1, L, va_rf (rs.getD j.toNatClampNeg none) :: rest, cs) else none
      | _ => none
    | _ => none
  | .aastore => match r with
    | [t, ci, _] => match st with
      | .ref v :: .int j :: .ref i :: rest => match zz_cq cs i with
        | some (.inr (.inl (u, rs))) => match zz_cq cs v with
          | some (.inr (.inr (cj, _))) => if u = t ∧ cj = ci ∧ zz_ix j rs.length = true then some (pc + 1, L, rest, zz_stq cs i (some (.inr (.inl (t, rs.set j.toNatClampNeg (some v)))))) else none
          | _ => none
        | _ => none
      | _ => none
    | _ => none
  | .arraylength => match st with
    | .ref i :: rest => match zz_cq cs i with
      | some (.inl xs) => some (pc + 1, L, .int (Int32.ofNat xs.length) :: rest, cs)
      | some (.inr (.inl (t, rs))) => if zz_rt t = true then some (pc + 1, L, .int (Int32.ofNat rs.length) :: rest, cs) else none
      | _ => none
    | _ => none
  | .ldc _ => some (pc + 2, L, v0 :: st, cs)
  | .ldc_w _ => some (pc + 3, L, v0 :: st, cs)
  | .ldc2_w _ => some (pc + 3, L, v0 :: st, cs)
  | _ => none
theorem zz_dbe (ins : Instr) (r : List Nat) (v0 : Value) (pc : Nat) (L : List (Option Value)) (st : List Value) (cs : zz_W) : zz_dbq ins r v0 pc L st cs = zz_db ins r v0 pc L st cs := by
  unfold zz_dbq zz_db
  simp only [zz_cq_eq, zz_stq_eq]
-- what the tables must say of such an instruction
noncomputable def zz_lk (own : String) (idx w : Nat) (f : String × String × String × Bool) : Bool := zz_wd w (.fieldLink own idx f.1 f.2.1 f.2.2.1) || zz_wd w (.fieldLinkNest own idx f.1 f.2.1 f.2.2.1 zz_host)
noncomputable def zz_tb (own nm : String) (ins : Instr) (r : List Nat) (v0 : Value) : Bool := match ins with
  | .getfield idx => match r with
    | [ci, k, w] => match classes[ci]? with
      | some q => decide (k < q.2.2) && zz_lk own idx w (q.2.1 k)
      | none => false
    | _ => false
  | .putfield idx => match r with
    | [ci, k, w, tc] => match classes[ci]? with
      | some q => decide (k < q.2.2) && (zz_tc tc (zz_ft q k) && (if (q.2.1 k).2.2.2 = true then zz_wd w (.fieldLink own idx (q.2.1 k).1 (q.2.1 k).2.1 (q.2.1 k).2.2.1) && (decide ((q.2.1 k).1 = own) && decide (nm = "<init>")) else zz_lk own idx w (q.2.1 k)))
      | none => false
    | _ => false
  | .aastore => match r with
    | [t, ci, w] => match classes[ci]? with
      | some q => match zz_ty[t]? with
        | some (.object E) => decide (E = q.1) || zz_wd w (.castable q.1 E)
        | _ => false
      | none => false
    | _ => false
  | .ldc idx => match r with
    | [w] => match v0 with
      | .int x => zz_wd w (.constant own idx x)
      | _ => false
    | _ => false
  | .ldc_w idx => match r with
    | [w] => match v0 with
      | .int x => zz_wd w (.constant own idx x)
      | _ => false
    | _ => false
  | .ldc2_w idx => match r with
    | [w] => match v0 with
      | .long x => zz_wd w (.constantLong own idx x)
      | _ => false
    | _ => false
  | _ => true
-- an instruction: its place, itself, its length, its numbers, its constant
noncomputable abbrev zz_I : Type := Nat × Instr × Nat × List Nat × Value
-- a method: its name; code; locals; answer; how many parameters; is it static; cells and slots that it makes, frames and words of the stack that it asks; the places of its words (code, initialized, instanceMethod or static); its instructions by places over 16
noncomputable abbrev zz_Mi : Type := MethodName × ByteArray × Nat × Option FieldType × Nat × Bool × (Nat × Nat × Nat × Nat) × (Nat × Nat × Nat) × List (List zz_I)
noncomputable def zz_nm (y : MethodName) : Bool := !decide (y.cls = "java/lang/invoke/MethodHandle") && !decide (y.cls = "java/lang/invoke/VarHandle")
noncomputable def zz_mok (mi : zz_Mi) : Bool := match mi with
  | (y, b, nL, ret, n, stt, _, (w0, w1, w2), _) => zz_wd w1 (.initialized y.cls) && ((match stt with
    | true => zz_wd w2 (.static y)
    | false => zz_wd w2 (.instanceMethod y)) && (zz_nm y && (plainName y.cls && decide ((parseMethodDescriptor y.desc).map (fun d => d.parameters.length) = some n))))
-- its code is the tables' word
noncomputable def zz_mcw (mi : zz_Mi) : Prop := lw_tbl[mi.2.2.2.2.2.2.2.1.1]? = some (.code mi.1 mi.2.1 mi.2.2.1 mi.2.2.2.1)
noncomputable def zz_ss (st : List Value) : Nat := (st.map (fun v => v.category)).sum
noncomputable abbrev zz_O3 : Type := Option (Nat × List (Option Value) × List Value × zz_W × Nat × Nat)
noncomputable def zz_dv (q : vw_C) : List Value := (List.range q.2.2).map (fun k => defaultValue (zz_ft q k))
noncomputable def zz_al (ins : Instr) (r : List Nat) (Bc Bs pc : Nat) (L : List (Option Value)) (st : List Value) (cs : zz_W) (cu su : Nat) : zz_O3 := match ins with
  | .new _ => match r with
    | [ci, _, _, _] => match classes[ci]? with
      | some q => if cu + 1 ≤ Bc ∧ su + q.2.2 ≤ Bs ∧ 0 < cs.length then some (pc + 3, L, .ref cs.length :: st, cs ++ [some (.inr (.inr (ci, zz_dv q)))], cu + 1, su + q.2.2) else none
      | none => none
    | _ => none
  | .newarray _ => match st with
    | .int n :: rest => if ¬ n < 0 ∧ n.toNatClampNeg ≤ 100000 ∧ cu + 1 ≤ Bc ∧ su + n.toNatClampNeg ≤ Bs ∧ 0 < cs.length then some (pc + 2, L, .ref cs.length :: rest, cs ++ [some (.inl (List.replicate n.toNatClampNeg 0))], cu + 1, su + n.toNatClampNeg) else none
    | _ => none
  | .anewarray _ => match r with
    | [t, _, _] => match st with
      | .int n :: rest => if ¬ n < 0 ∧ n.toNatClampNeg ≤ 100000 ∧ cu + 1 ≤ Bc ∧ su + n.toNatClampNeg ≤ Bs ∧ 0 < cs.length then some (pc + 3, L, .ref cs.length :: rest, cs ++ [some (.inr (.inl (t, List.replicate n.toNatClampNeg none)))], cu + 1, su + n.toNatClampNeg) else none
      | _ => none
    | _ => none
  | .multianewarray _ dims => match r with
    | [t, _, _, _] => match st with
      | .int k :: .int n :: rest => if dims = 2 ∧ zz_ty[t]? = some (.array .int) ∧ ¬ n < 0 ∧ ¬ k < 0 ∧ n.toNatClampNeg ≤ 100000 ∧ k.toNatClampNeg ≤ 100000 ∧ cu + (1 + n.toNatClampNeg) ≤ Bc ∧ su + (n.toNatClampNeg + n.toNatClampNeg * k.toNatClampNeg) ≤ Bs ∧ 0 < cs.length then some (pc + 4, L, .ref cs.length :: rest, cs ++ (some (.inr (.inl (t, (List.range n.toNatClampNeg).map (fun i => some (cs.length + 1 + i))))) :: List.replicate n.toNatClampNeg (some (.inl (List.replicate k.toNatClampNeg 0)))), cu + 1 + n.toNatClampNeg, su + n.toNatClampNeg + n.toNatClampNeg * k.toNatClampNeg) else none
      | _ => none
    | _ => none
  | _ => none
noncomputable def zz_alq (ins : Instr) (r : List Nat) (Bc Bs pc : Nat) (L : List (Option Value)) (st : List Value) (cs : zz_W) (cu su : Nat) : zz_O3 := match ins with
  | .new _ => match r with
    | [ci, _, _, _] => match classes[ci]? with
      | some q => if cu + 1 ≤ Bc ∧ su + q.2.2 ≤ Bs ∧ 0 < zz_lnq cs then some (pc + 3, L, .ref (zz_lnq cs) :: st, cs ++ [some (.inr (.inr (ci, zz_dv q)))], cu + 1, su + q.2.2) else none
      | none => none
    | _ => none
  | .newarray _ => match st with
    | .int n :: rest => if ¬ n < 0 ∧ n.toNatClampNeg ≤ 100000 ∧ cu + 1 ≤ Bc ∧ su + n.toNatClampNeg ≤ Bs ∧ 0 < zz_lnq cs then some (pc + 2, L, .ref (zz_lnq cs) :: rest, cs ++ [some (.inl (List.replicate n.toNatClampNeg 0))], cu + 1, su + n.toNatClampNeg) else none
    | _ => none
  | .anewarray _ => match r with
    | [t, _, _] => match st with
      | .int n :: rest => if ¬ n < 0 ∧ n.toNatClampNeg ≤ 100000 ∧ cu + 1 ≤ Bc ∧ su + n.toNatClampNeg ≤ Bs ∧ 0 < zz_lnq cs then some (pc + 3, L, .ref (zz_lnq cs) :: rest, cs ++ [some (.inr (.inl (t, List.replicate n.toNatClampNeg none)))], cu + 1, su + n.toNatClampNeg) else none
      | _ => none
    | _ => none
  | .multianewarray _ dims => match r with
    | [t, _, _, _] => match st with
      | .int k :: .int n :: rest => if dims = 2 ∧ zz_ty[t]? = some (.array .int) ∧ ¬ n < 0 ∧ ¬ k < 0 ∧ n.toNatClampNeg ≤ 100000 ∧ k.toNatClampNeg ≤ 100000 ∧ cu + (1 + n.toNatClampNeg) ≤ Bc ∧ su + (n.toNatClampNeg + n.toNatClampNeg * k.toNatClampNeg) ≤ Bs ∧ 0 < zz_lnq cs then some (pc + 4, L, .ref (zz_lnq cs) :: rest, cs ++ (some (.inr (.inl (t, (List.range n.toNatClampNeg).map (fun i => some (zz_lnq cs + 1 + i))))) :: List.replicate n.toNatClampNeg (some (.inl (List.replicate k.toNatClampNeg 0)))), cu + 1 + n.toNatClampNeg, su + n.toNatClampNeg + n.toNatClampNeg * k.toNatClampNeg) else none
      | _ => none
    | _ => none
  | _ => none
theorem zz_ale (ins : Instr) (r : List Nat) (Bc Bs pc : Nat) (L : List (Option Value)) (st : List Value) (cs : zz_W) (cu su : Nat) : zz_alq ins r Bc Bs pc L st cs cu su = zz_al ins r Bc Bs pc L st cs cu su := by
  unfold zz_alq zz_al
  simp only [zz_lnq_eq]
noncomputable def zz_at3 (own : String) (ins : Instr) (r : List Nat) : Bool := match ins with
  | .new idx => match r with
    | [ci, w1, w2, w3] => match classes[ci]? with
      | some q => zz_wd w1 (.classLink own idx q.1) && (zz_wd w2 (.instantiable q.1 q.2.2) && zz_wd w3 (.initialized q.1))
      | none => false
    | _ => false
  | .newarray ty => match r with
    | [w] => decide (ty = .int) && zz_wd w (.arrayClass .int)
    | _ => false
  | .anewarray idx => match r with
    | [t, w1, w2] => match zz_ty[t]? with
      | some (.object C) => zz_wd w1 (.classLink own idx C) && zz_wd w2 (.arrayOver (.object C))
      | _ => false
    | _ => false
  | .multianewarray idx _ => match r with
    | [_, w1, w2, w3] => zz_wd w1 (.classLink own idx ("[" ++ (FieldType.array .int).toString)) && (zz_wd w2 (.arrayOver (.array .int)) && zz_wd w3 (.arrayClass .int))
    | _ => false
  | _ => true
noncomputable def zz_na (ins : Instr) (r : List Nat) (fr lo pc : Nat) (L : List (Option Value)) (st : List Value) (cs : zz_W) : zz_O2 := match ins with
  | .invokespecial _ => match r with
    | [0, _, _, _] => match st with
      | .ref _ :: rest => if 1 ≤ fr ∧ zz_ss rest + 12 ≤ lo then some (pc + 3, L, rest, cs) else none
      | _ => none
    | _ => none
  | .invokestatic _ => match r with
    | [10, _, _, _, _] => match st with
      | .int y :: .int x :: rest => if 1 ≤ fr ∧ zz_ss rest + 13 ≤ lo then some (pc + 3, L, .int (if x < y then y else x) :: rest, cs) else none
      | _ => none
    | [11, _, _, _, _] => match st with
      | .int y :: .int x :: rest => if 1 ≤ fr ∧ zz_ss rest + 13 ≤ lo then some (pc + 3, L, .int (if y < x then y else x) :: rest, cs) else none
      | _ => none
    | [12, _, _, _, _] => match st with
      | .int n :: .int dp :: .ref j :: .int sp :: .ref i :: rest => match zz_cell cs i with
        | some (.inl xs) => match zz_cell cs j with
          | some (.inl ys) => if 1 ≤ fr ∧ zz_ss rest + 18 ≤ lo ∧ sp = 0 ∧ dp = 0 ∧ ¬ n < 0 ∧ n.toNatClampNeg ≤ xs.length ∧ n.toNatClampNeg ≤ ys.length then some (pc + 3, L, rest, cs.set j (some (.inl (xs.take n.toNatClampNeg ++ ys.drop n.toNatClampNeg)))) else none
          | _ => none
        | _ => none
      | _ => none
    | _ => none
  | _ => none
noncomputable def zz_tn (own : String) (ins : Instr) (r : List Nat) : Bool := match ins with
  | .invokespecial idx => match r with
    | [0, w1, w2, w3] => zz_wd w1 (.methodLink own idx Lib.objectInit) && (zz_wd w2 (.instanceMethod Lib.objectInit) && zz_wd w3 (.code Lib.objectInit ⟨#[0xb1]⟩ 1 none))
    | _ => true
  | .invokestatic idx => match r with
    | [10, w1, w2, w3, w4] => zz_wd w1 (.methodLink own idx Lib.Math.max.name) && (zz_wd w2 (.static Lib.Math.max.name) && (zz_wd w3 (.initialized "java/lang/Math") && zz_wd w4 (.code Lib.Math.max.name Lib.Math.max.code 2 (some .int))))
    | [11, w1, w2, w3, w4] => zz_wd w1 (.methodLink own idx Lib.Math.min.name) && (zz_wd w2 (.static Lib.Math.min.name) && (zz_wd w3 (.initialized "java/lang/Math") && zz_wd w4 (.code Lib.Math.min.name Lib.Math.min.code 2 (some .int))))
    | [12, w1, w2, w3, w4] => zz_wd w1 (.methodLink own idx arraycopyName) && (zz_wd w2 (.native arraycopyName) && (zz_wd w3 (.static arraycopyName) && zz_wd w4 (.initialized "java/lang/System")))
    | _ => true
  | _ => true
end
