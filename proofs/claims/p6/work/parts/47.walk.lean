/-! the typed machine: calls by contract or on the spot, walks, what a contract's check is -/
-- a contract: method; arguments; facts ahead (each a name more); good rows ahead; bits that it may change; ways out: an answer and facts; good rows behind
abbrev tCon : Type := Nat × List ta × List (Nat × Int × Int) × List Nat × Nat × List (Option ta × tF) × List Nat
-- a loop's head: place; locals; facts; good rows; the measure: a constant, a weight for each local and each fact
abbrev tN : Type := Nat × tL × tF × List Nat × Int × List Int
abbrev tQ : Type := tB → tF → List Nat → Option ta → Bool
abbrev tP : Type := Nat → tL → List ta → tF → List Nat → tB → Option Bool
abbrev tH : Type := tP → zz_Mi → Nat → tL → List ta → tF → List Nat → tB → tQ → Bool
noncomputable def t_fnd (pc : Nat) (ch : List zz_I) : Option zz_I := List.rec (motive := fun _ => Option zz_I) none (fun e _ ih => match Nat.beq e.1 pc with | true => some e | false => ih) ch
noncomputable def t_fetch (code : List (List zz_I)) (pc : Nat) : Option zz_I := match t_nth code (Nat.div pc 16) with
  | some ch => t_fnd pc ch
  | none => none
noncomputable def t_rc (st : List ta) (n : Nat) : Option Nat := match t_nth st n with
  | some (.inr (.inr (.inl ro))) => match t_nth t_ro ro with
    | some (_, _, _, .inr (.inr (ci, _))) => some ci
    | _ => none
  | _ => none
noncomputable def t_c1 (rc : Nat → Option Nat) (k : Nat) : Option (Nat × zz_Mi) := match t_nth zz_mts k with
  | some mi => match rc mi.2.2.2.2.1 with
    | some _ => some (k, mi)
    | none => none
  | none => none
noncomputable def t_c2 (rc : Nat → Option Nat) (k ci : Nat) : Option (Nat × zz_Mi) := match t_nth zz_mts k with
  | some mi => match rc mi.2.2.2.2.1 with
    | some cj => match Nat.beq cj ci with
      | true => some (k, mi)
      | false => none
    | none => none
  | none => none
noncomputable def t_c0 (k : Nat) : Option (Nat × zz_Mi) := match t_nth zz_mts k with
  | some mi => some (k, mi)
  | none => none
noncomputable def t_ca (ins : Instr) (r : List Nat) (rc : Nat → Option Nat) : Option (Nat × zz_Mi) := match ins with
  | .invokestatic _ => match r with
    | [3, k, _] => t_c0 k
    | [4, k, _] => t_c0 k
    | _ => none
  | .invokespecial _ => match r with
    | [9, k, _, _, _, _, _] => t_c1 rc k
    | [7, k, _, _, _] => t_c1 rc k
    | _ => none
  | .invokevirtual _ => match r with
    | [1, k, ci, _, _] => t_c2 rc k ci
    | [2, k, ci, _, _] => t_c2 rc k ci
    | 8 :: k :: _ :: _ :: alts => match t_nth zz_mts k with
      | some mx => match rc mx.2.2.2.2.1 with
        | some cj => match zz_alt cj alts with
          | some (k', _) => match t_nth zz_mts k' with
            | some mi => match Nat.beq mi.2.2.2.2.1 mx.2.2.2.2.1 with
              | true => some (k', mi)
              | false => none
            | none => none
          | none => none
        | none => none
      | none => none
    | _ => none
  | _ => none
noncomputable def t_spl (n : Nat) (st acc : List ta) (k : List ta → List ta → Bool) : Bool := Nat.rec (motive := fun _ => List ta → List ta → (List ta → List ta → Bool) → Bool) (fun st acc k => k acc st) (fun _ ih st acc k => match st with
  | v :: s => ih s (v :: acc) k
  | [] => false) n st acc k
noncomputable def t_cok (q : Nat × Nat × Nat × Nat) (mk : zz_Mi) (args rest : List ta) : Bool := t_and (Nat.ble (t_css rest) 8) (t_and (Nat.beq mk.2.2.2.2.2.2.1.1 0) (t_and (Nat.beq mk.2.2.2.2.2.2.1.2.1 0) (t_and (Nat.ble (t_css args) mk.2.2.1) (t_and (Nat.ble (Nat.add mk.2.2.2.2.2.2.1.2.2.1 1) q.2.2.1) (Nat.ble (Nat.add (Nat.add 8 (Nat.add mk.2.2.1 11)) mk.2.2.2.2.2.2.1.2.2.2) q.2.2.2)))))
noncomputable def t_ent (args : List ta) (n : Nat) : tL := List.rec (motive := fun _ => Nat → tL) (fun n => Nat.rec (motive := fun _ => tL) [] (fun _ ih => t_top :: ih) n) (fun v _ ih n => match t_isL v with
  | true => v :: t_top :: ih (Nat.pred (Nat.pred n))
  | false => v :: ih (Nat.pred n)) args n
def t_vt (v : Option ta) (st : List ta) : List ta := match v with
  | some v => v :: st
  | none => st
-- contracts
/-- does a value fit a template (whose names are the contract's) -/
noncomputable def t_lf (rs : tB) (tm v : ta) : Bool := match tm with
  | .inl (j, a, b) => match v with
    | .inl x => Nat.rec (motive := fun _ => Bool) (t_wi rs x a b) (fun _ _ => t_and (Nat.beq x.1 j) (t_and (t_le a x.2.1) (t_le x.2.2 b))) j
    | _ => false
  | .inr (.inl (j, a, b)) => match v with
    | .inr (.inl x) => Nat.rec (motive := fun _ => Bool) (t_wi rs x a b) (fun _ _ => t_and (Nat.beq x.1 j) (t_and (t_le a x.2.1) (t_le x.2.2 b))) j
    | _ => false
  | .inr (.inr (.inl r)) => match v with
    | .inr (.inr (.inl r')) => Nat.beq r' r
    | _ => false
  | .inr (.inr (.inr _)) => match t_isL v with
    | true => false
    | false => true
noncomputable def t_lfA (rs : tB) (tm v : ta) : Bool := match tm with
  | .inr (.inr (.inr _)) => true
  | _ => t_lf rs tm v
noncomputable def t_lsA (rs : tB) (tms vs : List ta) : Bool := List.rec (motive := fun _ => List ta → Bool) (fun vs => match vs with | [] => true | _ :: _ => false) (fun tm _ ih vs => match vs with
  | v :: vs' => match t_lfA rs tm v with
    | true => ih vs'
    | false => false
  | [] => false) tms vs
noncomputable def t_lfs (rs : tB) (tms vs : List ta) : Bool := List.rec (motive := fun _ => List ta → Bool) (fun vs => match vs with | [] => true | _ :: _ => false) (fun tm _ ih vs => match vs with
  | v :: vs' => match t_lf rs tm v with
    | true => ih vs'
    | false => false
  | [] => false) tms vs
/-- of a slot: the bounds that its role gives, or the good row that it stands in -/
noncomputable def t_kty (tk : List Nat) (key : Nat) : Option (Int × Int) := match t_mem (Nat.div key 1024) tk with
  | true => t_nth t_TT (Nat.mod key 1024)
  | false => match t_nth t_rl (Nat.div key 1024) with
    | some ro => match t_nth t_ro ro with
      | some (c, _, _, .inl (n, lo, hi)) => match t_and (Nat.beq c (Nat.div key 1024)) (Nat.blt (Nat.mod key 1024) n) with
        | true => some (lo, hi)
        | false => none
      | some (c, _, _, .inr (.inr (_, fts))) => match Nat.beq c (Nat.div key 1024) with
        | true => match t_nth fts (Nat.mod key 1024) with
          | some (.inl (lo, hi)) => some (lo, hi)
          | _ => none
        | false => none
      | _ => none
    | none => none
noncomputable def t_bit (key : Nat) : Option Nat := match t_nth t_rl (Nat.div key 1024) with
  | some ro => match t_nth t_ro ro with
    | some (_, _, b, .inr (.inr _)) => some (Nat.add b (Nat.mod key 1024))
    | some (_, _, b, _) => some b
    | none => none
  | none => none
noncomputable def t_keep (M : Nat) (key : Nat) : Bool := match t_bit key with
  | some b => match Nat.testBit M b with
    | true => false
    | false => true
  | none => false
/-- what a fact says of a slot, or what its role does -/
noncomputable def t_fv (F : tF) (tk : List Nat) (key : Nat) : ta := match t_fget F key with
  | some v => v
  | none => match t_kty tk key with
    | some (lo, hi) => .inl (0, lo, hi)
    | none => t_top
noncomputable def t_pok (F : tF) (tk : List Nat) (rs : tB) (p : Nat × Int × Int) : Bool := match t_fv F tk p.1 with
  | .inl x => t_wi rs x p.2.1 p.2.2
  | _ => false
noncomputable def t_cap (j : Nat) (args : List ta) (F : tF) (tk : List Nat) (rs : tB) (c : tCon) : Bool := match Nat.beq c.1 j with
  | true => match t_lfs rs c.2.1 args with
    | true => t_and (t_all (t_pok F tk rs) c.2.2.1) (t_all (fun i => t_mem i tk) c.2.2.2.1)
    | false => false
  | false => false
noncomputable def t_fc (C : List tCon) (j : Nat) (args : List ta) (F : tF) (tk : List Nat) (rs : tB) : Option tCon := List.rec (motive := fun _ => Option tCon) none (fun c _ ih => match t_cap j args F tk rs c with | true => some c | false => ih) C
noncomputable def t_gh (args : List ta) : List tT := List.rec (motive := fun _ => List tT) [] (fun v _ ih => match v with
  | .inl x => x :: ih
  | .inr (.inl x) => x :: ih
  | _ => ih) args
noncomputable def t_pf (tk : List Nat) (pre : List (Nat × Int × Int)) (F : tF) (rs : tB) (G : List tT) (k : tF → tB → List tT → Bool) : Bool := List.rec (motive := fun _ => tF → tB → List tT → (tF → tB → List tT → Bool) → Bool) (fun F rs G k => k F rs G) (fun p _ ih F rs G k => match t_fget F p.1 with
  | some (.inl x) => t_app G x (fun G' => ih F rs G' k)
  | some _ => false
  | none => match t_kty tk p.1 with
    | some (lo, hi) => t_new rs lo hi (fun x rs' => t_app G x (fun G' => ih ((p.1, .inl x) :: F) rs' G' k))
    | none => false) pre F rs G k
noncomputable def t_sb1 (G : List tT) (x : tT) (k : tT → Bool) : Bool := Nat.rec (motive := fun _ => Bool) (k x) (fun g _ => match t_nth G g with
  | some y => t_mk y.1 (Int.add y.2.1 x.2.1) (Int.add y.2.2 x.2.2) k
  | none => false) x.1
noncomputable def t_sb (G : List tT) (v : ta) (k : ta → Bool) : Bool := match v with
  | .inl x => t_sb1 G x (fun y => k (.inl y))
  | .inr (.inl x) => t_sb1 G x (fun y => k (.inr (.inl y)))
  | _ => k v
noncomputable def t_pst (G : List tT) (post : tF) (F : tF) (k : tF → Bool) : Bool := List.rec (motive := fun _ => tF → (tF → Bool) → Bool) (fun F k => k F) (fun e _ ih F k => t_sb G e.2 (fun v => t_fset F e.1 v (fun F' => ih F' k))) post F k
noncomputable def t_apl (Mw : Nat) (c : tCon) (args rest : List ta) (F : tF) (tk : List Nat) (rs : tB) (k : List ta → tF → List Nat → tB → Bool) : Bool := match Nat.beq (Nat.land c.2.2.2.2.1 Mw) c.2.2.2.2.1 with
  | true => t_pf tk c.2.2.1 F rs (t_gh args) (fun F1 rs1 G => t_fil (fun e => t_keep c.2.2.2.2.1 e.1) F1 (fun F2 => t_fil (fun i => t_keep c.2.2.2.2.1 (t_key i 0)) tk (fun tk2 => t_all (fun a => t_pst G a.2 F2 (fun F3 => match a.1 with
    | none => k rest F3 (c.2.2.2.2.2.2 ++ tk2) rs1
    | some v => t_sb G v (fun v' => k (v' :: rest) F3 (c.2.2.2.2.2.2 ++ tk2) rs1))) c.2.2.2.2.2.1)))
  | false => false
def t_no : tP := fun _ _ _ _ _ _ => none
noncomputable def t_inv (C : List tCon) (Mw : Nat) (ih : tH) (stp : tP) (mi : zz_Mi) (pc : Nat) (c : Option (Nat × zz_Mi)) (A : tL) (st : List ta) (F : tF) (tk : List Nat) (rs : tB) (K : tQ) : Bool := match c with
  | none => false
  | some (j, mj) => t_spl (zz_cn mj) st [] (fun args rest => match t_cok mi.2.2.2.2.2.2.1 mj args rest with
    | false => false
    | true => match t_fc C j args F tk rs with
      | some con => t_apl Mw con args rest F tk rs (fun st' F' tk' rs' => t_nx pc 3 (fun pc' => ih stp mi pc' A st' F' tk' rs' K))
      | none => ih t_no mj 0 (t_ent args mj.2.2.1) [] F tk rs (fun rs' F' tk' v => t_nx pc 3 (fun pc' => ih stp mi pc' A (t_vt v rest) F' tk' rs' K)))
noncomputable def t_ret (ins : Instr) (ret : Option FieldType) (st : List ta) (F : tF) (tk : List Nat) (rs : tB) (K : tQ) (dflt : Bool) : Bool := match ins with
  | .ireturn => match st with
    | [.inl x] => match ret with
      | some .int => K rs F tk (some (.inl x))
      | some .boolean => match t_wi rs x (.ofNat 0) (.ofNat 1) with
        | true => K rs F tk (some (.inl x))
        | false => false
      | _ => false
    | _ => false
  | .lreturn => match st with
    | [.inr (.inl x)] => match ret with
      | some .long => K rs F tk (some (.inr (.inl x)))
      | _ => false
    | _ => false
  | .return_ => match st with
    | [] => match ret with
      | none => K rs F tk none
      | _ => false
    | _ => false
  | _ => dflt
noncomputable def t_body (C : List tCon) (Mw : Nat) (ih : tH) (stp : tP) (mi : zz_Mi) (pc : Nat) (A : tL) (st : List ta) (F : tF) (tk : List Nat) (rs : tB) (K : tQ) : Bool := match t_fetch mi.2.2.2.2.2.2.2.2 pc with
  | none => false
  | some (p, ins, _, r, v0) => match t_one ins with
    | some f => f r v0 mi.2.2.2.2.2.2.1.2.2.1 mi.2.2.2.2.2.2.1.2.2.2 Mw p A st F tk rs (fun pc' A' st' F' tk' rs' => ih stp mi pc' A' st' F' tk' rs' K) (t_fetch mi.2.2.2.2.2.2.2.2 (Nat.succ p)) (t_inv C Mw ih stp mi p (t_ca ins r (t_rc st)) A st F tk rs K)
    | none => t_ret ins mi.2.2.2.1 st F tk rs K (t_inv C Mw ih stp mi p (t_ca ins r (t_rc st)) A st F tk rs K)
noncomputable def t_ev (C : List tCon) (Mw : Nat) (n : Nat) : tH := Nat.rec (motive := fun _ => tH) (fun _ _ _ _ _ _ _ _ _ => false) (fun _ ih stp mi pc A st F tk rs K => match stp pc A st F tk rs with
  | some b => b
  | none => t_body C Mw ih stp mi pc A st F tk rs K) n
