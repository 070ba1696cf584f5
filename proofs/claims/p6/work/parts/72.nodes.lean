/-! trees of what a method does, in ints: their meaning (xd), and the check that a tree is a method's (xc). An operand is a name (its number) or an int; a node: what, operands, a number, an int -/
abbrev xO : Type := Nat ⊕ Int
abbrev xN : Type := Nat × List xO × Nat × Int
abbrev xT : Type := List xN
def wr (z : Int) : Int := Int.bmod z 4294967296
def wl (z : Int) : Int := Int.bmod z 18446744073709551616
def xand (a b : Int) : Int := (Int32.ofInt a &&& Int32.ofInt b).toInt
def xor' (a b : Int) : Int := (Int32.ofInt a ||| Int32.ofInt b).toInt
def xxor (a b : Int) : Int := (Int32.ofInt a ^^^ Int32.ofInt b).toInt
def xshl (a b : Int) : Int := (Int32.ofInt a <<< (Int32.ofInt b &&& 31)).toInt
def xshr (a b : Int) : Int := (Int32.ofInt a >>> (Int32.ofInt b &&& 31)).toInt
def xushr (a b : Int) : Int := (((Int32.ofInt a).toUInt32 >>> ((Int32.ofInt b).toUInt32 &&& Int32.toUInt32 31)).toInt32).toInt
def xdiv (a b : Int) : Int := wr (Int.tdiv a b)
def xrem (a b : Int) : Int := wr (a - wr (wr (Int.tdiv a b) * b))
def xmax (a b : Int) : Int := if a < b then b else a
def xmin (a b : Int) : Int := if b < a then b else a
def xldiv (a b : Int) : Int := wl (Int.tdiv a b)
def xlrem (a b : Int) : Int := wl (a - wl (wl (Int.tdiv a b) * b))
def xlcmp (a b : Int) : Int := if b < a then 1 else if a = b then 0 else -1
def xop2 (o : Nat) (a b : Int) : Int := match o with
  | 0 => wr (a + b)
  | 1 => wr (a - b)
  | 2 => wr (a * b)
  | 3 => xand a b
  | 4 => xor' a b
  | 5 => xxor a b
  | 6 => xshl a b
  | 7 => xshr a b
  | 8 => xushr a b
  | 9 => xdiv a b
  | 10 => xrem a b
  | 11 => xmax a b
  | 12 => xmin a b
  | 13 => wl (a + b)
  | 14 => wl (a - b)
  | 15 => wl (a * b)
  | 16 => xldiv a b
  | 17 => xlrem a b
  | 18 => xlcmp a b
  | _ => 0
def xop1 (o : Nat) (a : Int) : Int := match o with
  | 0 => wr (-a)
  | 1 => wr a
  | _ => 0
def xcmp (o : Nat) (a b : Int) : Prop := match o with
  | 0 => a = b
  | 1 => a ≠ b
  | 2 => a < b
  | 3 => b ≤ a
  | 4 => b < a
  | 5 => a ≤ b
  | _ => True
def xng (o : Nat) : Nat := match o with
  | 0 => 1
  | 1 => 0
  | 2 => 3
  | 3 => 2
  | 4 => 5
  | 5 => 4
  | _ => 6
noncomputable def xg (ρ : List Int) (i : Nat) : Int := List.rec (motive := fun _ => Nat → Int) (fun _ => 0) (fun a _ ih i => Nat.rec (motive := fun _ => Int) a (fun j _ => ih j) i) ρ i
noncomputable def xe (ρ : List Int) (o : xO) : Int := match o with
  | .inl i => xg ρ i
  | .inr z => z
noncomputable def xes (ρ : List Int) (l : List xO) : List Int := List.rec (motive := fun _ => List Int) [] (fun o _ ih => xe ρ o :: ih) l
/-- the length of an array -/
def f_len (z : Int) : Int := match z with
  | .ofNat i => match f_ct[i]? with
    | some (_, _, n) => (n : Int)
    | none => 0
  | .negSucc _ => 0
/-- a method's runs: arguments, cells before, answer, cells behind -/
def fvo (v : Option Value) : Int := match v with
  | some u => fv u
  | none => 0
def xtB (τ : Nat) (u : Value) : Prop := match τ with
  | 0 => u.category = 1
  | 1 => u.category = 2
  | t + 2 => u.category = 1 ∧ ∀ i, u = .ref i → ∃ n, f_ct[i]? = some (1, t, n)
def xTs : List Nat → List Value → Prop
  | [], [] => True
  | τ :: r, u :: us => xtB τ u ∧ xTs r us
  | _, _ => False
def fS (j : Nat) (as : List Int) (h : fH) (v : Int) (h' : fH) : Prop := ∃ mi n us cs w cs', zz_mts[j]? = some mi ∧ f_ok j = true ∧ fFX cs ∧ zz_ev n mi (0, zz_ent mi.2.2.1 us, [], cs, 0, 0) = some (w, cs') ∧ xTs ((f_tags[j]?).getD []) us ∧ us.map fv = as ∧ fh cs = h ∧ fh cs' = h' ∧ v = fvo w
noncomputable def xnd (I : Nat → List Int → fH → Prop) (Q : Int → fH → Prop) (nd : xN) (ih : Nat → List Int → fH → Prop) (ρ : List Int) (h : fH) : Prop := match nd with
  | (0, [c], k, _) => ∀ z' : Int, z' = h (xe ρ c) (k : Int) → ih 0 (ρ ++ [z']) h
  | (1, [c, i], _, _) => ∀ z' : Int, z' = h (xe ρ c) (xe ρ i) → ih 0 (ρ ++ [z']) h
  | (2, [c, v], k, _) => ∀ h' : fH, h' = fu h (xe ρ c) (k : Int) (xe ρ v) → ih 0 ρ h'
  | (3, [c, i, v], _, _) => ∀ h' : fH, h' = fu h (xe ρ c) (xe ρ i) (xe ρ v) → ih 0 ρ h'
  | (4, [a], _, z) => ∀ z' : Int, z' = xe ρ a + z → ih 0 (ρ ++ [z']) h
  | (5, [a, p], _, z) => ∀ z' : Int, z' = xe ρ a + 1 + z * xe ρ p → ih 0 (ρ ++ [z']) h
  | (6, [a], _, _) => ∀ z' : Int, z' = f_len (xe ρ a) → ih 0 (ρ ++ [z']) h
  | (7, [i, j, n], _, _) => ∀ h' : fH, h' = fcp h (xe ρ i) (xe ρ j) (xe ρ n) → ih 0 ρ h'
  | (8, [a, b], o, _) => ∀ z' : Int, z' = xop2 o (xe ρ a) (xe ρ b) → ih 0 (ρ ++ [z']) h
  | (9, [a], o, _) => ∀ z' : Int, z' = xop1 o (xe ρ a) → ih 0 (ρ ++ [z']) h
  | (10, [a, b], o, m) => (xcmp o (xe ρ a) (xe ρ b) → ih 0 ρ h) ∧ (xcmp (xng o) (xe ρ a) (xe ρ b) → ih (Int.toNat m) ρ h)
  | (11, [a], _, _) => Q (xe ρ a) h
  | (12, as, k, _) => I k (xes ρ as) h
  | (13, as, j, _) => ∀ (v : Int) (h' : fH), fS j (xes ρ as) h v h' → ih 0 (ρ ++ [v]) h'
  | _ => True
noncomputable def xd (I : Nat → List Int → fH → Prop) (Q : Int → fH → Prop) (T : xT) : Nat → List Int → fH → Prop := List.rec (motive := fun _ => Nat → List Int → fH → Prop) (fun _ _ _ => True) (fun nd _ ih s ρ h => Nat.rec (motive := fun _ => Prop) (xnd I Q nd ih ρ h) (fun m _ => ih m ρ h) s) T
-- the check
def xob (a b : xO) : Bool := match a with
  | .inl i => match b with
    | .inl j => Nat.beq i j
    | .inr _ => false
  | .inr y => match b with
    | .inl _ => false
    | .inr z => t_eq y z
noncomputable def xobs (a b : List xO) : Bool := List.rec (motive := fun _ => List xO → Bool) (fun b => match b with | [] => true | _ :: _ => false) (fun x _ ih b => match b with
  | y :: b' => match xob x y with
    | true => ih b'
    | false => false
  | [] => false) a b
noncomputable def xnb (a b : xN) : Bool := match Nat.beq a.1 b.1 with
  | true => match xobs a.2.1 b.2.1 with
    | true => match Nat.beq a.2.2.1 b.2.2.1 with
      | true => t_eq a.2.2.2 b.2.2.2
      | false => false
    | false => false
  | false => false
abbrev xV : Type := Nat × xO
abbrev xL : Type := List (Option xV)
abbrev xS : Type := List xV
abbrev xK : Type := Nat → xL → xS → Nat → xT → Bool
noncomputable def x_em (nd : xN) (T : xT) (k : xT → Bool) : Bool := match T with
  | nd' :: T' => match xnb nd nd' with
    | true => k T'
    | false => false
  | [] => false
/-- a node that gives a name -/
noncomputable def x_ev (nd : xN) (lvl : Nat) (T : xT) (k : xO → Nat → xT → Bool) : Bool := x_em nd T (fun T' => t_fn lvl (fun l => k (.inl l) (Nat.succ l) T'))
noncomputable def x_ldv (A : xL) (j : Nat) (k : xV → Bool) : Bool := match t_nth A j with
  | some (some v) => k v
  | _ => false
noncomputable def x_st (A : xL) (j : Nat) (v : xV) (k : xL → Bool) : Bool := t_upd A j (some v) k
def x_cc (op : ClassFile.Cond) : Nat := match op with
  | .eq => 0
  | .ne => 1
  | .lt => 2
  | .ge => 3
  | .gt => 4
  | .le => 5
def x_cb (op : ClassFile.Cond) (a b : Int) : Bool := match op with
  | .eq => t_eq a b
  | .ne => match t_eq a b with | true => false | false => true
  | .lt => t_le (Int.add a 1) b
  | .ge => t_le b a
  | .gt => t_le (Int.add b 1) a
  | .le => t_le a b
/-- a branch -/
noncomputable def x_br (op : ClassFile.Cond) (x y : xO) (T : xT) (kt kf : xT → Bool) : Bool := match T with
  | [] => false
  | nd :: T' => match nd with
    | (10, [a, b], o, m) => match xob a x with
      | true => match xob b y with
        | true => match Nat.beq o (x_cc op) with
          | true => match kt T' with
            | true => kf (T'.drop (Int.toNat m))
            | false => false
          | false => false
        | false => false
      | false => false
    | _ => false
noncomputable def x_if (op : ClassFile.Cond) (x y : xO) (T : xT) (kt kf : xT → Bool) : Bool := match x with
  | .inr a => match y with
    | .inr b => match x_cb op a b with
      | true => kt T
      | false => kf T
    | .inl _ => x_br op x y T kt kf
  | .inl _ => x_br op x y T kt kf
noncomputable def x_go (pc : Nat) (off : Int) (k : Nat → Bool) : Bool := match zz_tg pc off with
  | some t => t_fn t k
  | none => false
noncomputable def x_bo (op : ClassFile.Cond) (off : Int) (pc : Nat) (x y : xO) (T : xT) (k : Nat → xT → Bool) : Bool := x_if op x y T (fun T1 => x_go pc off (fun t => k t T1)) (fun T2 => t_fn (Nat.add pc 3) (fun t => k t T2))
/-- a switch: the cases one behind the other -/
noncomputable def x_cs (pc : Nat) (x : xO) (d : Int) (ps : List (Int × Int)) (k : Nat → xT → Bool) (T : xT) : Bool := List.rec (motive := fun _ => xT → Bool) (fun T => x_go pc d (fun t => k t T)) (fun p _ ih T => x_if .eq x (.inr p.1) T (fun T1 => x_go pc p.2 (fun t => k t T1)) ih) ps T
noncomputable def x_off (lo : Int) (offs : List Int) : List (Int × Int) := List.rec (motive := fun _ => Int → List (Int × Int)) (fun _ => []) (fun o _ ih lo => (lo, o) :: ih (Int.add lo 1)) offs lo
abbrev xX : Type := List Nat → Value → Nat → xL → xS → Nat → xT → xK → Bool
noncomputable def x_2 (o τ n : Nat) : xX := fun _ _ pc A st lvl T k => match st with
  | (_, y) :: (_, x) :: s => x_ev (8, [x, y], o, 0) lvl T (fun v l T' => t_fn (Nat.add pc n) (fun pc' => k pc' A ((τ, v) :: s) l T'))
  | _ => false
noncomputable def x_1 (o τ : Nat) : xX := fun _ _ pc A st lvl T k => match st with
  | (_, x) :: s => x_ev (9, [x], o, 0) lvl T (fun v l T' => t_fn (Nat.add pc 1) (fun pc' => k pc' A ((τ, v) :: s) l T'))
  | _ => false
noncomputable def x_con (τ n : Nat) (z : Int) : xX := fun _ _ pc A st lvl T k => t_fi z (fun z => t_fn (Nat.add pc n) (fun pc' => k pc' A ((τ, .inr z) :: st) lvl T))
noncomputable def x_lod (j n : Nat) : xX := fun _ _ pc A st lvl T k => x_ldv A j (fun v => t_fn (Nat.add pc n) (fun pc' => k pc' A (v :: st) lvl T))
noncomputable def x_sto (j n : Nat) : xX := fun _ _ pc A st lvl T k => match st with
  | v :: s => x_st A j v (fun A' => t_fn (Nat.add pc n) (fun pc' => k pc' A' s lvl T))
  | _ => false
noncomputable def x_getf : xX := fun r _ pc A st lvl T k => match r with
  | [ci, f, _] => match st with
    | (_, o) :: s => match f_fnd ci f with
      | some (ab, z, τ) => match ab with
        | true => t_fi z (fun z => t_fn (Nat.add pc 3) (fun pc' => k pc' A ((τ, .inr z) :: s) lvl T))
        | false => match o with
          | .inr y => t_fi (Int.add y z) (fun z => t_fn (Nat.add pc 3) (fun pc' => k pc' A ((τ, .inr z) :: s) lvl T))
          | .inl _ => x_ev (4, [o], 0, z) lvl T (fun v l T' => t_fn (Nat.add pc 3) (fun pc' => k pc' A ((τ, v) :: s) l T'))
      | none => x_ev (0, [o], f, 0) lvl T (fun v l T' => t_fn (Nat.add pc 3) (fun pc' => k pc' A ((0, v) :: s) l T'))
    | _ => false
  | _ => false
noncomputable def x_putf : xX := fun r _ pc A st lvl T k => match r with
  | [ci, f, _, tc] => match st with
    | (_, v) :: (_, o) :: s => match f_fnd ci f with
      | some _ => false
      | none => match Nat.beq tc 3 with
        | true => false
        | false => x_em (2, [o, v], f, 0) T (fun T' => t_fn (Nat.add pc 3) (fun pc' => k pc' A s lvl T'))
    | _ => false
  | _ => false
noncomputable def x_ald : xX := fun _ _ pc A st lvl T k => match st with
  | (_, i) :: (τ, a) :: s => match τ with
    | t + 2 => match f_arr t with
      | some m => x_ev (5, [a, i], 0, m) lvl T (fun v l T' => t_fn (Nat.add pc 1) (fun pc' => k pc' A ((0, v) :: s) l T'))
      | none => x_ev (1, [a, i], 0, 0) lvl T (fun v l T' => t_fn (Nat.add pc 1) (fun pc' => k pc' A ((0, v) :: s) l T'))
    | _ => false
  | _ => false
noncomputable def x_na : xX := fun r v0 pc A st lvl T k => match r with
  | [a, _, _, _, _] => match a with
    | 10 => x_2 11 0 3 r v0 pc A st lvl T k
    | 11 => x_2 12 0 3 r v0 pc A st lvl T k
    | 12 => match st with
      | (_, n) :: _ :: (_, j) :: _ :: (_, i) :: s => x_em (7, [i, j, n], 0, 0) T (fun T' => t_fn (Nat.add pc 3) (fun pc' => k pc' A s lvl T'))
      | _ => false
    | _ => false
  | _ => false
noncomputable def x_ar (ins : Instr) : Option (Nat × Nat) := match ins with
  | .iadd => some (0, 0)
  | .isub => some (1, 0)
  | .imul => some (2, 0)
  | .iand => some (3, 0)
  | .ior => some (4, 0)
  | .ixor => some (5, 0)
  | .ishl => some (6, 0)
  | .ishr => some (7, 0)
  | .iushr => some (8, 0)
  | .idiv => some (9, 0)
  | .irem => some (10, 0)
  | .ladd => some (13, 1)
  | .lsub => some (14, 1)
  | .lmul => some (15, 1)
  | .ldiv => some (16, 1)
  | .lrem => some (17, 1)
  | .lcmp => some (18, 0)
  | _ => none
noncomputable def x_op (ins : Instr) : Option xX := match ins with
  | .iconst n => match t_in n n with
    | true => some (x_con 0 1 n)
    | false => none
  | .bipush n => some (x_con 0 2 (Int8.ofInt n).toInt32.toInt)
  | .sipush n => some (x_con 0 3 (Int16.ofInt n).toInt32.toInt)
  | .ldc_w _ => some (fun r v0 pc A st lvl T k => match v0 with
    | .int x => x_con 0 3 x.toInt r v0 pc A st lvl T k
    | _ => false)
  | .lconst n => some (x_con 1 1 (Int.ofNat (n : Nat)))
  | .ldc2_w _ => some (fun r v0 pc A st lvl T k => match v0 with
    | .long x => x_con 1 3 x.toInt r v0 pc A st lvl T k
    | _ => false)
  | .iload_n j => some (x_lod j 1)
  | .iload j => some (x_lod j 2)
  | .lload_n j => some (x_lod j 1)
  | .lload j => some (x_lod j 2)
  | .aload_n j => some (x_lod j 1)
  | .aload j => some (x_lod j 2)
  | .istore_n j => some (x_sto j 1)
  | .istore j => some (x_sto j 2)
  | .lstore_n j => some (x_sto j 1)
  | .lstore j => some (x_sto j 2)
  | .astore_n j => some (x_sto j 1)
  | .astore j => some (x_sto j 2)
  | .iinc j n => match t_in n n with
    | true => some (fun _ _ pc A st lvl T k => x_ldv A j (fun v => x_ev (8, [v.2, .inr n], 0, 0) lvl T (fun w l T' => x_st A j (0, w) (fun A' => t_fn (Nat.add pc 3) (fun pc' => k pc' A' st l T')))))
    | false => none
  | .ineg => some (x_1 0 0)
  | .l2i => some (x_1 1 0)
  | .i2l => some (fun _ _ pc A st lvl T k => match st with
    | (_, x) :: s => t_fn (Nat.add pc 1) (fun pc' => k pc' A ((1, x) :: s) lvl T)
    | _ => false)
  | .dup => some (fun _ _ pc A st lvl T k => match st with
    | v :: s => t_fn (Nat.add pc 1) (fun pc' => k pc' A (v :: v :: s) lvl T)
    | _ => false)
  | .dup2 => some (fun _ _ pc A st lvl T k => match st with
    | v :: w :: s => t_fn (Nat.add pc 1) (fun pc' => k pc' A (v :: w :: v :: w :: s) lvl T)
    | _ => false)
  | .pop => some (fun _ _ pc A st lvl T k => match st with
    | _ :: s => t_fn (Nat.add pc 1) (fun pc' => k pc' A s lvl T)
    | _ => false)
  | .goto off => some (fun _ _ pc A st lvl T k => x_go pc off (fun t => k t A st lvl T))
  | .ifCond op off => some (fun _ _ pc A st lvl T k => match st with
    | (_, x) :: s => x_bo op off pc x (.inr 0) T (fun t T' => k t A s lvl T')
    | _ => false)
  | .if_icmp op off => some (fun _ _ pc A st lvl T k => match st with
    | (_, y) :: (_, x) :: s => x_bo op off pc x y T (fun t T' => k t A s lvl T')
    | _ => false)
  | .tableswitch d lo hi offs => some (fun _ _ pc A st lvl T k => match st with
    | (_, x) :: s => match t_eq (Int.sub hi lo) (Int.sub (Int.ofNat (t_len offs.toList)) 1) with
      | true => x_cs pc x d (x_off lo offs.toList) (fun t T' => k t A s lvl T') T
      | false => false
    | _ => false)
  | .lookupswitch d ps => some (fun _ _ pc A st lvl T k => match st with
    | (_, x) :: s => x_cs pc x d ps.toList (fun t T' => k t A s lvl T') T
    | _ => false)
  | .getfield _ => some x_getf
  | .putfield _ => some x_putf
  | .iaload => some (fun _ _ pc A st lvl T k => match st with
    | (_, i) :: (_, a) :: s => x_ev (1, [a, i], 0, 0) lvl T (fun v l T' => t_fn (Nat.add pc 1) (fun pc' => k pc' A ((0, v) :: s) l T'))
    | _ => false)
  | .iastore => some (fun _ _ pc A st lvl T k => match st with
    | (_, v) :: (_, i) :: (_, a) :: s => x_em (3, [a, i, v], 0, 0) T (fun T' => t_fn (Nat.add pc 1) (fun pc' => k pc' A s lvl T'))
    | _ => false)
  | .aaload => some x_ald
  | .aastore => some (fun r _ pc A st lvl T k => match r with
    | [t, _, _] => match f_arr t with
      | some _ => false
      | none => match st with
        | (_, v) :: (_, i) :: (_, a) :: s => x_em (3, [a, i, v], 0, 0) T (fun T' => t_fn (Nat.add pc 1) (fun pc' => k pc' A s lvl T'))
        | _ => false
    | _ => false)
  | .arraylength => some (fun _ _ pc A st lvl T k => match st with
    | (_, a) :: s => x_ev (6, [a], 0, 0) lvl T (fun v l T' => t_fn (Nat.add pc 1) (fun pc' => k pc' A ((0, v) :: s) l T'))
    | _ => false)
  | _ => match x_ar ins with
    | some (o, τ) => some (x_2 o τ 1)
    | none => none
-- calls
abbrev xQ : Type := Option xV → Nat → xT → Bool
abbrev xHd : Type := List (Nat × List (Nat × Nat))
abbrev xH : Type := xHd → zz_Mi → Nat → xL → xS → Nat → xT → xQ → Bool
noncomputable def x_spl (n : Nat) (st acc : xS) (k : xS → xS → Bool) : Bool := Nat.rec (motive := fun _ => xS → xS → (xS → xS → Bool) → Bool) (fun st acc k => k acc st) (fun _ ih st acc k => match st with
  | v :: s => ih s (v :: acc) k
  | [] => false) n st acc k
noncomputable def x_ent (args : xS) (n : Nat) : xL := List.rec (motive := fun _ => Nat → xL) (fun n => Nat.rec (motive := fun _ => xL) [] (fun _ ih => none :: ih) n) (fun v _ ih n => match v.1 with
  | 1 => some v :: none :: ih (Nat.pred (Nat.pred n))
  | _ => some v :: ih (Nat.pred n)) args n
noncomputable def x_tgs (ts : List Nat) (args : xS) : Bool := List.rec (motive := fun _ => xS → Bool) (fun a => match a with | [] => true | _ :: _ => false) (fun t _ ih a => match a with
  | v :: s => match Nat.beq t v.1 with
    | true => ih s
    | false => match Nat.beq t 0 with
      | true => match Nat.ble 2 v.1 with
        | true => ih s
        | false => false
      | false => false
  | [] => false) ts args
noncomputable def x_ops (args : xS) : List xO := List.rec (motive := fun _ => List xO) [] (fun v _ ih => v.2 :: ih) args
noncomputable def x_rvl (v : Option xV) (s : xS) : xS := match v with
  | some v => v :: s
  | none => s
/-- a call of method k: by its runs (a node), or on the spot -/
noncomputable def x_cal (ih : xH) (hd : xHd) (mi : zz_Mi) (k pc : Nat) (A : xL) (st : xS) (lvl : Nat) (T : xT) (K : xQ) : Bool := match t_nth zz_mts k with
  | none => false
  | some mj => match f_ok k with
    | false => false
    | true => x_spl (zz_cn mj) st [] (fun args rest => match T with
      | [] => false
      | nd :: T' => match t_and (Nat.beq nd.1 13) (Nat.beq nd.2.2.1 k) with
        | true => match t_nth f_tags k with
          | none => false
          | some ts => match t_and (x_tgs ts args) (xobs nd.2.1 (x_ops args)) with
            | true => t_fn lvl (fun l => t_fn (Nat.add pc 3) (fun pc' => match f_rtg mj.2.2.2.1 with
              | none => ih hd mi pc' A rest (Nat.succ l) T' K
              | some τ => ih hd mi pc' A ((τ, .inl l) :: rest) (Nat.succ l) T' K))
            | false => false
        | false => ih [] mj 0 (x_ent args mj.2.2.1) [] lvl T (fun ret l T2 => t_fn (Nat.add pc 3) (fun pc' => ih hd mi pc' A (x_rvl ret rest) l T2 K)))
/-- the kinds: class c of these is cell 4 + c alone -/
noncomputable def x_pol (ih : Nat → xT → Bool) (o : xO) (alts : List Nat) (n : Nat) (T : xT) : Bool := Nat.rec (motive := fun _ => List Nat → xT → Bool) (fun _ _ => false) (fun _ rc alts T => match alts with
  | [] => match T with
    | (14, _, _, _) :: _ => true
    | _ => false
  | c :: k :: _ :: r => match t_and (Nat.ble 1 c) (Nat.ble c 6) with
    | true => x_if .eq o (.inr (Int.ofNat (Nat.add 4 c))) T (ih k) (rc r)
    | false => false
  | _ => false) n alts T
noncomputable def x_inv (ih : xH) (hd : xHd) (mi : zz_Mi) (ins : Instr) (r : List Nat) (pc : Nat) (A : xL) (st : xS) (lvl : Nat) (T : xT) (K : xQ) : Bool := match ins with
  | .invokestatic _ => match r with
    | [3, k, _] => x_cal ih hd mi k pc A st lvl T K
    | [4, k, _] => x_cal ih hd mi k pc A st lvl T K
    | _ => false
  | .invokespecial _ => match r with
    | [9, k, _, _, _, _, _] => x_cal ih hd mi k pc A st lvl T K
    | [7, k, _, _, _] => x_cal ih hd mi k pc A st lvl T K
    | _ => false
  | .invokevirtual _ => match r with
    | [1, k, _, _, _] => x_cal ih hd mi k pc A st lvl T K
    | [2, k, _, _, _] => x_cal ih hd mi k pc A st lvl T K
    | 8 :: k :: _ :: _ :: alts => match t_nth zz_mts k with
      | some mx => match t_nth st mx.2.2.2.2.1 with
        | some (_, o) => x_pol (fun k' T' => x_cal ih hd mi k' pc A st lvl T' K) o alts (Nat.succ (t_len alts)) T
        | none => false
      | none => false
    | _ => false
  | _ => false
noncomputable def x_ret (ins : Instr) (st : xS) (lvl : Nat) (T : xT) (K : xQ) (dflt : Bool) : Bool := match ins with
  | .ireturn => match st with
    | [v] => K (some v) lvl T
    | _ => false
  | .lreturn => match st with
    | [v] => K (some v) lvl T
    | _ => false
  | .return_ => match st with
    | [] => K none lvl T
    | _ => false
  | _ => dflt
noncomputable def x_body (ih : xH) (hd : xHd) (mi : zz_Mi) (pc : Nat) (A : xL) (st : xS) (lvl : Nat) (T : xT) (K : xQ) : Bool := match t_fetch mi.2.2.2.2.2.2.2.2 pc with
  | none => false
  | some (_, ins, _, r, v0) => match ins with
    | .invokestatic _ => match r with
      | [_, _, _, _, _] => x_na r v0 pc A st lvl T (fun pc' A' st' l T' => ih hd mi pc' A' st' l T' K)
      | _ => x_inv ih hd mi ins r pc A st lvl T K
    | _ => match x_op ins with
      | some f => f r v0 pc A st lvl T (fun pc' A' st' l T' => ih hd mi pc' A' st' l T' K)
      | none => x_ret ins st lvl T K (x_inv ih hd mi ins r pc A st lvl T K)
noncomputable def x_live (A : xL) (lv : List (Nat × Nat)) (as : List xO) : Bool := List.rec (motive := fun _ => List xO → Bool) (fun as => match as with | [] => true | _ :: _ => false) (fun q _ ih as => match as with
  | o :: as' => match t_nth A q.1 with
    | some (some (τ, o')) => match t_and (xob o' o) (match Nat.beq τ q.2 with
      | true => true
      | false => t_and (Nat.beq q.2 0) (Nat.ble 2 τ)) with
      | true => ih as'
      | false => false
    | _ => false
  | [] => false) lv as
/-- the first head at a place -/
noncomputable def x_hd (hd : xHd) (pc : Nat) : Bool := t_any (fun e => Nat.beq e.1 pc) hd
noncomputable def x_jmp (hd : xHd) (mi : zz_Mi) (pc : Nat) (A : xL) (st : xS) (T : xT) : Bool := match st with
  | [] => match T with
    | (12, as, i, _) :: _ => match t_nth hd i with
      | some (p, lv) => t_and (Nat.beq p pc) (t_and (Nat.beq (t_len A) mi.2.2.1) (x_live A lv as))
      | none => false
    | _ => false
  | _ => false
noncomputable def xc (n : Nat) : xH := Nat.rec (motive := fun _ => xH) (fun _ _ _ _ _ _ _ _ => false) (fun _ ih hd mi pc A st lvl T K => match x_hd hd pc with
  | true => x_jmp hd mi pc A st T
  | false => x_body ih hd mi pc A st lvl T K) n
-- a method whole
noncomputable def x_K0 : xQ := fun ret _ T => match T with
  | (11, [a], _, _) :: _ => match ret with
    | some (_, o) => xob o a
    | none => xob (.inr 0) a
  | _ => false
noncomputable def x_a0 (ts : List Nat) : xS := List.rec (motive := fun _ => Nat → xS) (fun _ => []) (fun t _ ih i => t_fn i (fun i => (t, .inl i) :: ih (Nat.succ i))) ts 0
noncomputable def x_A0 (nL : Nat) (lv : List (Nat × Nat)) : xL := List.rec (motive := fun _ => Nat → xL → xL) (fun _ A => A) (fun q _ ih i A => t_fn i (fun i => ih (Nat.succ i) (A.set q.1 (some (q.2, .inl i))))) lv 0 (List.replicate nL none)
noncomputable def x_chk (j : Nat) (hd : xHd) (T : xT) (Ts : List xT) (n : Nat) : Bool := match t_nth zz_mts j with
  | none => false
  | some mi => match t_nth f_tags j with
    | none => false
    | some ts => t_and (t_and (f_ok j) (Nat.beq (t_len hd) (t_len Ts))) (t_and (xc n hd mi 0 (x_ent (x_a0 ts) mi.2.2.1) [] (t_len ts) T x_K0) (t_all (fun e => x_body (xc n) hd mi e.1.1 (x_A0 mi.2.2.1 e.1.2) [] (t_len e.1.2) e.2 x_K0) (hd.zip Ts)))
