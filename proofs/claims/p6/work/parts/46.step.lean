/-! the typed machine: its instructions -/
abbrev tK : Type := Nat → tL → List ta → tF → List Nat → tB → Bool
noncomputable def t_to (pc : Nat) (off : Int) (k : Nat → Bool) : Bool := match zz_tg pc off with
  | some t => t_fn t k
  | none => false
noncomputable def t_nx (pc n : Nat) (k : Nat → Bool) : Bool := t_fn (Nat.add pc n) k
noncomputable def t_i2 (f : tB → tT → tT → (tT → Bool) → Bool) (rs : tB) (st : List ta) (k : List ta → Bool) : Bool := match st with
  | .inl y :: .inl x :: s => f rs x y (fun z => k (.inl z :: s))
  | _ => false
noncomputable def t_j2 (f : tB → tT → tT → (tT → Bool) → Bool) (rs : tB) (st : List ta) (k : List ta → Bool) : Bool := match st with
  | .inr (.inl y) :: .inr (.inl x) :: s => f rs x y (fun z => k (.inr (.inl z) :: s))
  | _ => false
noncomputable def t_neg (rs : tB) (x : tT) (k : tT → Bool) : Bool := match t_iv rs x with
  | some (p, q) => t_nrm rs (0, Int.neg q, Int.neg p) k
  | none => false
noncomputable def t_con1 (z : Int) (k : ta → Bool) : Bool := t_fi z (fun z => k (.inl (0, z, z)))
noncomputable def t_br (op : ClassFile.Cond) (off : Int) (pc : Nat) (rs : tB) (x y : tT) (k : Nat → tB → Bool) : Bool := match zz_tg pc off with
  | some tt => t_cmp op rs x y (fun rs' => t_fn tt (fun t => k t rs')) (fun rs' => t_nx pc 3 (fun t => k t rs'))
  | none => false
/-- the cases of a switch, one behind the other -/
noncomputable def t_cases (offs : List Int) (f : Nat → Int → Bool) : Bool := List.rec (motive := fun _ => Nat → Bool) (fun _ => true) (fun o _ ih i => match f i o with
  | true => ih (Nat.succ i)
  | false => false) offs 0
noncomputable def t_tsw (d lo hi : Int) (offs : List Int) (pc : Nat) (rs : tB) (x : tT) (k : Nat → tB → Bool) : Bool := match t_iv rs x with
  | some (p, q) => t_and (t_and (t_le (Int.sub hi lo) (Int.sub (.ofNat (t_len offs)) (.ofNat 1))) (match t_and (t_le lo p) (t_le q hi) with
    | true => true
    | false => t_to pc d (fun t => k t rs))) (t_cases offs (fun i o => t_fi (Int.add lo (.ofNat i)) (fun c => t_equ rs x (0, c, c) (fun rs' => t_to pc o (fun t => k t rs')))))
  | none => false
noncomputable def t_getf (r : List Nat) (st : List ta) (F : tF) (rs : tB) (k : ta → List ta → tF → tB → Bool) : Bool := match r with
  | [ci, f, _] => match st with
    | .inr (.inr (.inl ro)) :: s => match t_nth t_ro ro with
      | some (c, one, _, .inr (.inr (cj, fts))) => match Nat.beq cj ci with
        | true => match t_nth fts f with
          | some ft => match one with
            | true => match t_fget F (t_key c f) with
              | some v => k v s F rs
              | none => match ft with
                | .inl (lo, hi) => t_new rs lo hi (fun x rs' => t_fn (t_key c f) (fun key => k (.inl x) s ((key, .inl x) :: F) rs'))
                | .inr (alts, nul) => match nul with
                  | true => false
                  | false => t_all (fun a => k (t_rf a) s F rs) alts
            | false => match ft with
              | .inl (lo, hi) => k (.inl (0, lo, hi)) s F rs
              | .inr (alts, nul) => match nul with
                | true => false
                | false => t_all (fun a => k (t_rf a) s F rs) alts
          | none => false
        | false => false
      | _ => false
    | _ => false
  | _ => false
noncomputable def t_putf (Mw : Nat) (r : List Nat) (st : List ta) (F : tF) (rs : tB) (k : List ta → tF → Bool) : Bool := match r with
  | [ci, f, _, tc] => match st with
    | v :: .inr (.inr (.inl ro)) :: s => match t_nth t_ro ro with
      | some (c, one, b, .inr (.inr (cj, fts))) => match Nat.beq cj ci with
        | true => match t_nth fts f with
          | some ft => match t_fits rs ft tc v with
            | true => match Nat.testBit Mw (Nat.add b f) with
              | true => match one with
                | true => t_fset F (t_key c f) v (fun F' => k s F')
                | false => k s F
              | false => false
            | false => false
          | none => false
        | false => false
      | _ => false
    | _ => false
  | _ => false
/-- is it any int: no fact is kept of that -/
def t_ful (lo hi : Int) : Bool := t_and (t_le lo (.negSucc 2147483647)) (t_le (.ofNat 2147483647) hi)
noncomputable def t_ild (st : List ta) (F : tF) (rs : tB) (k : ta → List ta → tF → tB → Bool) : Bool := match st with
  | .inl x :: .inr (.inr (.inl ro)) :: s => match t_nth t_ro ro with
    | some (c, one, _, .inl (n, lo, hi)) => match t_iv rs x with
      | some (p, q) => match t_and (t_le (.ofNat 0) p) (t_le q (Int.sub (.ofNat n) (.ofNat 1))) with
        | true => match t_and one (t_eq p q) with
          | true => match t_fget F (t_key c (Int.toNat p)) with
            | some v => k v s F rs
            | none => match t_ful lo hi with
              | true => k (.inl (0, lo, hi)) s F rs
              | false => t_new rs lo hi (fun x rs' => t_fn (t_key c (Int.toNat p)) (fun key => k (.inl x) s ((key, .inl x) :: F) rs'))
          | false => k (.inl (0, lo, hi)) s F rs
        | false => false
      | none => false
    | _ => false
  | _ => false
noncomputable def t_ist (Mw : Nat) (st : List ta) (F : tF) (tk : List Nat) (rs : tB) (k : List ta → tF → List Nat → Bool) : Bool := match st with
  | .inl v :: .inl x :: .inr (.inr (.inl ro)) :: s => match t_nth t_ro ro with
    | some (c, one, b, .inl (n, lo, hi)) => match t_iv rs x with
      | some (p, q) => match t_and (t_le (.ofNat 0) p) (t_le q (Int.sub (.ofNat n) (.ofNat 1))) with
        | true => match t_wi rs v lo hi with
          | true => match Nat.testBit Mw b with
            | true => match one with
              | true => t_tdel tk c (fun tk' => match t_eq p q with
                | true => match t_and (Nat.beq v.1 0) (t_ful v.2.1 v.2.2) with
                  | true => t_fn (t_key c (Int.toNat p)) (fun key => t_fil (fun e => match Nat.beq e.1 key with | true => false | false => true) F (fun F' => k s F' tk'))
                  | false => t_fset F (t_key c (Int.toNat p)) (.inl v) (fun F' => k s F' tk')
                | false => t_fdel F c (fun F' => k s F' tk'))
              | false => k s F tk
            | false => false
          | false => false
        | false => false
      | none => false
    | _ => false
  | _ => false
noncomputable def t_ald (st : List ta) (rs : tB) (k : ta → List ta → Bool) : Bool := match st with
  | .inl x :: .inr (.inr (.inl ro)) :: s => match t_nth t_ro ro with
    | some (_, _, _, .inr (.inl (t, n, alts))) => match t_iv rs x with
      | some (p, q) => match t_and (t_le (.ofNat 0) p) (t_and (t_le q (Int.sub (.ofNat n) (.ofNat 1))) (zz_rt t)) with
        | true => t_all (fun a => k (t_rf a) s) alts
        | false => false
      | none => false
    | _ => false
  | _ => false
noncomputable def t_ast (Mw : Nat) (r : List Nat) (st : List ta) (rs : tB) (k : List ta → Bool) : Bool := match r with
  | [t, ci, _] => match st with
    | .inr (.inr (.inl rv)) :: .inl x :: .inr (.inr (.inl ro)) :: s => match t_nth t_ro ro with
      | some (_, _, b, .inr (.inl (t', n, alts))) => match t_nth t_ro rv with
        | some (_, _, _, .inr (.inr (cj, _))) => match t_iv rs x with
          | some (p, q) => match t_and (t_le (.ofNat 0) p) (t_and (t_le q (Int.sub (.ofNat n) (.ofNat 1))) (t_and (Nat.beq t' t) (t_and (Nat.beq cj ci) (t_mem rv alts)))) with
            | true => match Nat.testBit Mw b with
              | true => k s
              | false => false
            | false => false
          | none => false
        | _ => false
      | _ => false
    | _ => false
  | _ => false
noncomputable def t_aln (st : List ta) (k : ta → List ta → Bool) : Bool := match st with
  | .inr (.inr (.inl ro)) :: s => match t_nth t_ro ro with
    | some (_, _, _, .inl (n, _, _)) => match Nat.ble n 1000000 with
      | true => k (.inl (0, .ofNat n, .ofNat n)) s
      | false => false
    | some (_, _, _, .inr (.inl (t, n, _))) => match t_and (Nat.ble n 1000000) (zz_rt t) with
      | true => k (.inl (0, .ofNat n, .ofNat n)) s
      | false => false
    | _ => false
  | _ => false
noncomputable def t_css (st : List ta) : Nat := List.rec (motive := fun _ => Nat) 0 (fun v _ ih => match t_isL v with | true => Nat.succ (Nat.succ ih) | false => Nat.succ ih) st
/-- arraycopy of the whole of an array over another one of its length -/
noncomputable def t_cpy (Mw lo : Nat) (st : List ta) (F : tF) (tk : List Nat) (rs : tB) (k : List ta → tF → List Nat → Bool) : Bool := match st with
  | .inl n :: .inl d :: .inr (.inr (.inl rj)) :: .inl s0 :: .inr (.inr (.inl ri)) :: s => match t_nth t_ro ri with
    | some (_, _, _, .inl (ni, loi, hii)) => match t_nth t_ro rj with
      | some (c, one, b, .inl (nj, loj, hij)) => match t_and (t_wi rs n (.ofNat 0) (.ofNat nj)) (t_and (t_wi rs n (.ofNat 0) (.ofNat ni)) (t_and (t_wi rs d (.ofNat 0) (.ofNat 0)) (t_and (t_wi rs s0 (.ofNat 0) (.ofNat 0)) (t_and (t_le loj loi) (t_and (t_le hii hij) (t_and (Nat.testBit Mw b) (Nat.ble (Nat.add (t_css s) 18) lo))))))) with
        | true => match one with
          | true => t_fdel F c (fun F' => t_tdel tk c (fun tk' => k s F' tk'))
          | false => k s F tk
        | false => false
      | _ => false
    | _ => false
  | _ => false
noncomputable def t_na (Mw fr lo : Nat) (r : List Nat) (pc : Nat) (A : tL) (st : List ta) (F : tF) (tk : List Nat) (rs : tB) (k : tK) (dflt : Bool) : Bool := match r with
  | [a, _, _, _, _] => match Nat.ble 1 fr with
    | true => match a with
      | 10 => match Nat.ble (Nat.add (t_css (st.drop 2)) 13) lo with
        | true => t_i2 t_mmx rs st (fun s => t_nx pc 3 (fun pc' => k pc' A s F tk rs))
        | false => false
      | 11 => match Nat.ble (Nat.add (t_css (st.drop 2)) 13) lo with
        | true => t_i2 t_mmn rs st (fun s => t_nx pc 3 (fun pc' => k pc' A s F tk rs))
        | false => false
      | 12 => t_cpy Mw lo st F tk rs (fun s F' tk' => t_nx pc 3 (fun pc' => k pc' A s F' tk' rs))
      | _ => false
    | false => false
  | _ => dflt
abbrev tX : Type := List Nat → Value → Nat → Nat → Nat → Nat → tL → List ta → tF → List Nat → tB → tK → Option zz_I → Bool → Bool
def t_cv (f : tB → tT → tT → (tT → Bool) → Bool) : Option (tB → tT → tT → (tT → Bool) → Bool) := some f
noncomputable def t_arI (ins : Instr) : Option (tB → tT → tT → (tT → Bool) → Bool) := match ins with
  | .iadd => some t_add
  | .isub => some t_sub
  | .imul => some t_mul
  | .iand => some t_bnd
  | .ior => some t_ior
  | .ixor => some t_anyI
  | .ishl => some t_shl
  | .ishr => some t_shr
  | .iushr => some t_anyI
  | .idiv => some t_div
  | .irem => some t_rem
  | _ => none
noncomputable def t_arJ (ins : Instr) : Option (tB → tT → tT → (tT → Bool) → Bool) := match ins with
  | .ladd => some t_anyJ
  | .lsub => some t_anyJ
  | .lmul => some t_anyJ
  | .ldiv => some t_ldiv
  | _ => none
noncomputable def t_op (ins : Instr) : Option tX := match ins with
  | .iconst n => some (fun _ _ _ _ _ pc A st F tk rs k _ _ => match t_in n n with
    | true => t_con1 n (fun v => t_nx pc 1 (fun pc' => k pc' A (v :: st) F tk rs))
    | false => false)
  | .bipush n => some (fun _ _ _ _ _ pc A st F tk rs k _ _ => t_con1 (Int8.ofInt n).toInt32.toInt (fun v => t_nx pc 2 (fun pc' => k pc' A (v :: st) F tk rs)))
  | .sipush n => some (fun _ _ _ _ _ pc A st F tk rs k _ _ => t_con1 (Int16.ofInt n).toInt32.toInt (fun v => t_nx pc 3 (fun pc' => k pc' A (v :: st) F tk rs)))
  | .ldc_w _ => some (fun _ v0 _ _ _ pc A st F tk rs k _ _ => match v0 with
    | .int x => t_con1 x.toInt (fun v => t_nx pc 3 (fun pc' => k pc' A (v :: st) F tk rs))
    | _ => false)
  | .lconst n => some (fun _ _ _ _ _ pc A st F tk rs k _ _ => t_fi (Int.ofNat (n : Nat)) (fun z => t_nx pc 1 (fun pc' => k pc' A (.inr (.inl (0, z, z)) :: st) F tk rs)))
  | .ldc2_w _ => some (fun _ v0 _ _ _ pc A st F tk rs k _ _ => match v0 with
    | .long x => t_fi x.toInt (fun z => t_nx pc 3 (fun pc' => k pc' A (.inr (.inl (0, z, z)) :: st) F tk rs))
    | _ => false)
  | .iload_n j => some (fun _ _ _ _ _ pc A st F tk rs k _ _ => t_ldI A j (fun v => t_nx pc 1 (fun pc' => k pc' A (v :: st) F tk rs)))
  | .iload j => some (fun _ _ _ _ _ pc A st F tk rs k _ _ => t_ldI A j (fun v => t_nx pc 2 (fun pc' => k pc' A (v :: st) F tk rs)))
  | .lload_n j => some (fun _ _ _ _ _ pc A st F tk rs k _ _ => t_ldJ A j (fun v => t_nx pc 1 (fun pc' => k pc' A (v :: st) F tk rs)))
  | .lload j => some (fun _ _ _ _ _ pc A st F tk rs k _ _ => t_ldJ A j (fun v => t_nx pc 2 (fun pc' => k pc' A (v :: st) F tk rs)))
  | .aload_n j => some (fun _ _ _ _ _ pc A st F tk rs k _ _ => t_ldA A j (fun v => t_nx pc 1 (fun pc' => k pc' A (v :: st) F tk rs)))
  | .aload j => some (fun _ _ _ _ _ pc A st F tk rs k _ _ => t_ldA A j (fun v => t_nx pc 2 (fun pc' => k pc' A (v :: st) F tk rs)))
  | .istore_n j => some (fun _ _ _ _ _ pc A st F tk rs k _ _ => match st with
    | .inl x :: s => t_name rs x (fun x' rs' => t_sto A j (.inl x') (fun A' => t_nx pc 1 (fun pc' => k pc' A' s F tk rs')))
    | _ => false)
  | .istore j => some (fun _ _ _ _ _ pc A st F tk rs k _ _ => match st with
    | .inl x :: s => t_name rs x (fun x' rs' => t_sto A j (.inl x') (fun A' => t_nx pc 2 (fun pc' => k pc' A' s F tk rs')))
    | _ => false)
  | .astore_n j => some (fun _ _ _ _ _ pc A st F tk rs k _ _ => match st with
    | .inr (.inr (.inl x)) :: s => t_sto A j (t_rf x) (fun A' => t_nx pc 1 (fun pc' => k pc' A' s F tk rs))
    | _ => false)
  | .astore j => some (fun _ _ _ _ _ pc A st F tk rs k _ _ => match st with
    | .inr (.inr (.inl x)) :: s => t_sto A j (t_rf x) (fun A' => t_nx pc 2 (fun pc' => k pc' A' s F tk rs))
    | _ => false)
  | .lstore_n j => some (fun _ _ _ _ _ pc A st F tk rs k _ _ => match st with
    | .inr (.inl x) :: s => t_name rs x (fun x' rs' => t_sto A j (.inr (.inl x')) (fun A' => match t_nth A' (Nat.succ j) with
      | some _ => t_upd A' (Nat.succ j) t_top (fun A2 => t_nx pc 1 (fun pc' => k pc' A2 s F tk rs'))
      | none => false))
    | _ => false)
  | .lstore j => some (fun _ _ _ _ _ pc A st F tk rs k _ _ => match st with
    | .inr (.inl x) :: s => t_name rs x (fun x' rs' => t_sto A j (.inr (.inl x')) (fun A' => match t_nth A' (Nat.succ j) with
      | some _ => t_upd A' (Nat.succ j) t_top (fun A2 => t_nx pc 2 (fun pc' => k pc' A2 s F tk rs'))
      | none => false))
    | _ => false)
  | .iinc j n => some (fun _ _ _ _ _ pc A st F tk rs k _ _ => match t_in n n with
    | true => match t_nth A j with
      | some (.inl x) => t_add rs x (0, n, n) (fun z => t_name rs z (fun x' rs' => t_sto A j (.inl x') (fun A' => t_nx pc 3 (fun pc' => k pc' A' st F tk rs'))))
      | _ => false
    | false => false)
  | .ineg => some (fun _ _ _ _ _ pc A st F tk rs k _ _ => match st with
    | .inl x :: s => t_neg rs x (fun z => t_nx pc 1 (fun pc' => k pc' A (.inl z :: s) F tk rs))
    | _ => false)
  | .i2l => some (fun _ _ _ _ _ pc A st F tk rs k _ _ => match st with
    | .inl x :: s => t_nx pc 1 (fun pc' => k pc' A (.inr (.inl x) :: s) F tk rs)
    | _ => false)
  | .lcmp => some (fun _ _ _ _ _ pc A st F tk rs k nx _ => match st with
    | .inr (.inl y) :: .inr (.inl x) :: s => match nx with
      | some (_, .ifCond op off, _, _, _) => t_nx pc 1 (fun pc1 => t_br op off pc1 rs x y (fun t rs' => k t A s F tk rs'))
      | _ => false
    | _ => false)
  | .dup => some (fun _ _ _ _ _ pc A st F tk rs k _ _ => match st with
    | v :: s => match t_isL v with
      | true => false
      | false => t_nx pc 1 (fun pc' => k pc' A (v :: v :: s) F tk rs)
    | [] => false)
  | .pop => some (fun _ _ _ _ _ pc A st F tk rs k _ _ => match st with
    | v :: s => match t_isL v with
      | true => false
      | false => t_nx pc 1 (fun pc' => k pc' A s F tk rs)
    | [] => false)
  | .dup2 => some (fun _ _ _ _ _ pc A st F tk rs k _ _ => match st with
    | v :: w :: s => match t_isL v with
      | true => false
      | false => match t_isL w with
        | true => false
        | false => t_nx pc 1 (fun pc' => k pc' A (v :: w :: v :: w :: s) F tk rs)
    | _ => false)
  | .goto off => some (fun _ _ _ _ _ pc A st F tk rs k _ _ => t_to pc off (fun t => k t A st F tk rs))
  | .ifCond op off => some (fun _ _ _ _ _ pc A st F tk rs k _ _ => match st with
    | .inl x :: s => t_br op off pc rs x (0, .ofNat 0, .ofNat 0) (fun t rs' => k t A s F tk rs')
    | _ => false)
  | .if_icmp op off => some (fun _ _ _ _ _ pc A st F tk rs k _ _ => match st with
    | .inl y :: .inl x :: s => t_br op off pc rs x y (fun t rs' => k t A s F tk rs')
    | _ => false)
  | .tableswitch d lo hi offs => some (fun _ _ _ _ _ pc A st F tk rs k _ _ => match st with
    | .inl x :: s => t_tsw d lo hi offs.toList pc rs x (fun t rs' => k t A s F tk rs')
    | _ => false)
  | .lookupswitch d ps => some (fun _ _ _ _ _ pc A st F tk rs k _ _ => match st with
    | .inl _ :: s => match (ps.toList.zip (ps.toList.drop 1)).all (fun (a, next) => a.1 < next.1) with
      | true => t_and (t_to pc d (fun t => k t A s F tk rs)) (t_all (fun q => t_to pc q.2 (fun t => k t A s F tk rs)) ps.toList)
      | false => false
    | _ => false)
  | .getfield _ => some (fun r _ _ _ _ pc A st F tk rs k _ _ => t_getf r st F rs (fun v s F' rs' => t_nx pc 3 (fun pc' => k pc' A (v :: s) F' tk rs')))
  | .putfield _ => some (fun r _ _ _ Mw pc A st F tk rs k _ _ => t_putf Mw r st F rs (fun s F' => t_nx pc 3 (fun pc' => k pc' A s F' tk rs)))
  | .iaload => some (fun _ _ _ _ _ pc A st F tk rs k _ _ => t_ild st F rs (fun v s F' rs' => t_nx pc 1 (fun pc' => k pc' A (v :: s) F' tk rs')))
  | .iastore => some (fun _ _ _ _ Mw pc A st F tk rs k _ _ => t_ist Mw st F tk rs (fun s F' tk' => t_nx pc 1 (fun pc' => k pc' A s F' tk' rs)))
  | .aaload => some (fun _ _ _ _ _ pc A st F tk rs k _ _ => t_ald st rs (fun v s => t_nx pc 1 (fun pc' => k pc' A (v :: s) F tk rs)))
  | .aastore => some (fun r _ _ _ Mw pc A st F tk rs k _ _ => t_ast Mw r st rs (fun s => t_nx pc 1 (fun pc' => k pc' A s F tk rs)))
  | .arraylength => some (fun _ _ _ _ _ pc A st F tk rs k _ _ => t_aln st (fun v s => t_nx pc 1 (fun pc' => k pc' A (v :: s) F tk rs)))
  | .invokestatic _ => some (fun r _ fr lo Mw pc A st F tk rs k _ dflt => t_na Mw fr lo r pc A st F tk rs k dflt)
  | _ => none
noncomputable def t_one (ins : Instr) : Option tX := match t_op ins with
  | some f => some f
  | none => match t_arI ins with
    | some g => some (fun _ _ _ _ _ pc A st F tk rs k _ _ => t_i2 g rs st (fun s => t_nx pc 1 (fun pc' => k pc' A s F tk rs)))
    | none => match t_arJ ins with
      | some g => some (fun _ _ _ _ _ pc A st F tk rs k _ _ => t_j2 g rs st (fun s => t_nx pc 1 (fun pc' => k pc' A s F tk rs)))
      | none => none
