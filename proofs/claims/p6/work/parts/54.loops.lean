/-! the typed machine: heads of loops, what a check of a contract is -/
-- the measure
noncomputable def t_wlo (rs : tB) (c : Int) (x : tT) (k : Int → Bool) : Bool := match t_iv rs x with
  | some (p, q) => match t_le (.ofNat 0) c with
    | true => k (Int.mul c p)
    | false => k (Int.mul c q)
  | none => false
noncomputable def t_whi (rs : tB) (c : Int) (x : tT) (k : Int → Bool) : Bool := match t_iv rs x with
  | some (p, q) => match t_le (.ofNat 0) c with
    | true => k (Int.mul c q)
    | false => k (Int.mul c p)
  | none => false
/-- no more than what c times the one is more than c' times the other -/
noncomputable def t_m1 (rs : tB) (c : Int) (s : ta) (c' : Int) (v : ta) (k : Int → Bool) : Bool := match t_eq c (.ofNat 0) with
  | true => match t_eq c' (.ofNat 0) with
    | true => k (.ofNat 0)
    | false => match v with
      | .inl y => t_whi rs c' y (fun b => k (Int.neg b))
      | _ => false
  | false => match s with
    | .inl x => match t_eq c' (.ofNat 0) with
      | true => t_wlo rs c x k
      | false => match v with
        | .inl y => match t_and (Nat.beq x.1 y.1) (t_eq c c') with
          | true => match t_iv rs x with
            | some _ => match t_le (.ofNat 0) c with
              | true => k (Int.mul c (Int.sub x.2.1 y.2.2))
              | false => k (Int.mul c (Int.sub x.2.2 y.2.1))
            | none => false
          | false => t_wlo rs c x (fun a => t_whi rs c' y (fun b => k (Int.sub a b)))
        | _ => false
    | _ => false
noncomputable def t_mes (rs : tB) (cs : List Int) (S : List ta) (cs' : List Int) (V : List ta) (acc : Int) (k : Int → Bool) : Bool := List.rec (motive := fun _ => List ta → List Int → List ta → Int → (Int → Bool) → Bool) (fun _ cs' _ acc k => match cs' with | [] => k acc | _ :: _ => false) (fun c _ ih S cs' V acc k => match S with
  | s :: S' => match cs' with
    | c' :: cs'' => match V with
      | v :: V' => t_m1 rs c s c' v (fun d => t_fi (Int.add acc d) (fun acc' => ih S' cs'' V' acc' k))
      | [] => false
    | [] => false
  | [] => false) cs S cs' V acc k
/-- is it a loop's head, with less of the measure -/
noncomputable def t_leaf (Sv : Option (Int × List Int × List ta)) (A : tL) (F : tF) (tk : List Nat) (rs : tB) (nd : tN) : Bool := match t_lsA rs nd.2.1 A with
  | true => match t_all (fun e => t_lf rs e.2 (t_fv F tk e.1)) nd.2.2.1 with
    | true => match t_all (fun i => t_mem i tk) nd.2.2.2.1 with
      | true => match Sv with
        | none => true
        | some (c0, cc, S) => t_mes rs cc S nd.2.2.2.2.2 (A ++ nd.2.2.1.map (fun e => t_fv F tk e.1)) (Int.sub c0 nd.2.2.2.2.1) (fun d => t_le (.ofNat 1) d)
      | false => false
    | false => false
  | false => false
noncomputable def t_stp (nds : List tN) (Sv : Option (Int × List Int × List ta)) : tP := fun pc A st F tk rs => match t_any (fun nd => Nat.beq nd.1 pc) nds with
  | true => match st with
    | [] => some (t_any (fun nd => t_and (Nat.beq nd.1 pc) (t_leaf Sv A F tk rs nd)) nds)
    | _ :: _ => some false
  | false => none
noncomputable def t_tkl (F : tF) (rs : tB) (c : Nat) (l : List (Int × Int)) (i : Nat) : Bool := List.rec (motive := fun _ => Nat → Bool) (fun _ => true) (fun q _ ih i => match t_fv F [] (t_key c i) with
  | .inl x => match t_wi rs x q.1 q.2 with
    | true => ih (Nat.succ i)
    | false => false
  | _ => false) l i
noncomputable def t_tok (F : tF) (rs : tB) (c : Nat) : Bool := t_tkl F rs c t_TT 0
noncomputable def t_lfo (rs : tB) (tm v : Option ta) : Bool := match tm with
  | none => match v with
    | none => true
    | some _ => false
  | some tm => match v with
    | none => false
    | some v => t_lf rs tm v
noncomputable def t_exit (c : tCon) : tQ := fun rs F tk v => match t_any (fun a => match t_lfo rs a.1 v with
    | true => t_all (fun e => t_lf rs e.2 (t_fv F tk e.1)) a.2
    | false => false) c.2.2.2.2.2.1 with
  | true => t_all (fun i => match t_mem i tk with | true => true | false => t_tok F rs i) c.2.2.2.2.2.2
  | false => false
-- names of a contract: its numbers among the arguments, then its facts ahead
noncomputable def t_g0 (args : List ta) (k : tL → tB → Bool) : Bool := List.rec (motive := fun _ => tB → (tL → tB → Bool) → Bool) (fun rs k => k [] rs) (fun v _ ih rs k => match v with
  | .inl (_, a, b) => t_fn (t_len rs) (fun j => t_app rs (a, b) (fun rs' => ih rs' (fun A rs2 => k (.inl (Nat.succ j, .ofNat 0, .ofNat 0) :: A) rs2)))
  | .inr (.inl (_, a, b)) => t_fn (t_len rs) (fun j => t_app rs (a, b) (fun rs' => ih rs' (fun A rs2 => k (.inr (.inl (Nat.succ j, .ofNat 0, .ofNat 0)) :: A) rs2)))
  | _ => ih rs (fun A rs2 => k (v :: A) rs2)) args [] k
noncomputable def t_p0 (pre : List (Nat × Int × Int)) (rs : tB) (F : tF) (k : tF → tB → Bool) : Bool := List.rec (motive := fun _ => tB → tF → (tF → tB → Bool) → Bool) (fun rs F k => k F rs) (fun p _ ih rs F k => t_fn (t_len rs) (fun j => t_app rs (p.2.1, p.2.2) (fun rs' => ih rs' ((p.1, .inl (Nat.succ j, .ofNat 0, .ofNat 0)) :: F) k))) pre rs F k
noncomputable def t_al1 (rs : tB) (v : ta) (k : ta → tB → Bool) : Bool := match v with
  | .inl x => t_name rs x (fun x' rs' => k (.inl x') rs')
  | .inr (.inl x) => t_name rs x (fun x' rs' => k (.inr (.inl x')) rs')
  | _ => k v rs
noncomputable def t_als (l : List ta) (rs : tB) (k : tL → tB → Bool) : Bool := List.rec (motive := fun _ => tB → (tL → tB → Bool) → Bool) (fun rs k => k [] rs) (fun v _ ih rs k => t_al1 rs v (fun v' rs' => ih rs' (fun A rs2 => k (v' :: A) rs2))) l rs k
noncomputable def t_fls (l : tF) (rs : tB) (k : tF → tB → Bool) : Bool := List.rec (motive := fun _ => tB → (tF → tB → Bool) → Bool) (fun rs k => k [] rs) (fun e _ ih rs k => t_al1 rs e.2 (fun v' rs' => ih rs' (fun A rs2 => k ((e.1, v') :: A) rs2))) l rs k
/-- the measure isn't below 0 -/
noncomputable def t_pos (rs : tB) (c0 : Int) (cc : List Int) (S : List ta) : Bool := t_mes rs cc S (cc.map (fun _ => .ofNat 0)) S c0 (fun d => t_le (.ofNat 0) d)
noncomputable def t_ce (C : List tCon) (c : tCon) (nds : List tN) (n : Nat) : Bool := match t_nth zz_mts c.1 with
  | some mi => match Nat.ble (t_css c.2.1) mi.2.2.1 with
    | true => t_g0 c.2.1 (fun A rs => t_p0 c.2.2.1 rs [] (fun F rs => t_ev C c.2.2.2.2.1 n (t_stp nds none) mi 0 (t_ent A mi.2.2.1) [] F c.2.2.2.1 rs (t_exit c)))
    | false => false
  | none => false
noncomputable def t_cn (C : List tCon) (c : tCon) (nds : List tN) (n : Nat) (nd : tN) : Bool := match t_nth zz_mts c.1 with
  | some mi => t_g0 c.2.1 (fun _ rs => t_p0 c.2.2.1 rs [] (fun _ rs => t_als nd.2.1 rs (fun A rs => t_fls nd.2.2.1 rs (fun F rs => match t_pos rs nd.2.2.2.2.1 nd.2.2.2.2.2 (A ++ F.map (fun e => e.2)) with
    | true => t_body C c.2.2.2.2.1 (t_ev C c.2.2.2.2.1 n) (t_stp nds (some (nd.2.2.2.2.1, nd.2.2.2.2.2, A ++ F.map (fun e => e.2)))) mi nd.1 A [] F nd.2.2.2.1 rs (t_exit c)
    | false => false))))
  | none => false
-- is a contract well written
noncomputable def t_sg (key : Nat) : Bool := match t_nth t_rl (Nat.div key 1024) with
  | some r => match t_nth t_ro r with
    | some (_, o, _, _) => o
    | none => false
  | none => false
noncomputable def t_ars (i : Nat) : Bool := match t_nth t_rl i with
  | some r => match t_nth t_ro r with
    | some (_, o, _, .inl _) => o
    | _ => false
  | none => false
def t_isI (v : ta) : Bool := match v with
  | .inl _ => true
  | _ => false
def t_nmk (n : Nat) (v : ta) : Bool := match v with
  | .inl (j, _, _) => Nat.ble j n
  | .inr (.inl (j, _, _)) => Nat.ble j n
  | _ => true
def t_arg (v : ta) : Bool := match v with
  | .inl (j, _, _) => Nat.beq j 0
  | .inr (.inl (j, _, _)) => Nat.beq j 0
  | .inr (.inr (.inl _)) => true
  | .inr (.inr (.inr _)) => false
noncomputable def t_cnt (args : List ta) : Nat := List.rec (motive := fun _ => Nat) 0 (fun v _ ih => match v with
  | .inl _ => Nat.succ ih
  | .inr (.inl _) => Nat.succ ih
  | _ => ih) args
noncomputable def t_fok (n : Nat) (e : Nat × ta) : Bool := t_and (t_sg e.1) (t_and (t_isI e.2) (t_nmk n e.2))
noncomputable def t_nc (c : tCon) : Nat := Nat.add (t_cnt c.2.1) (t_len c.2.2.1)
noncomputable def t_ook (n : Nat) (a : Option ta × tF) : Bool := t_and (match a.1 with
  | none => true
  | some v => t_nmk n v) (t_all (t_fok n) a.2)
noncomputable def t_wf (c : tCon) : Bool := t_and (t_all t_arg c.2.1) (t_and (t_all (fun p => t_sg p.1) c.2.2.1) (t_and (t_all (t_ook (t_nc c)) c.2.2.2.2.2.1) (t_all t_ars c.2.2.2.2.2.2)))
noncomputable def t_wn (n : Nat) (nd : tN) : Bool := t_and (t_all (t_nmk n) nd.2.1) (t_all (t_fok n) nd.2.2.1)
noncomputable def t_chk (C : List tCon) (c : tCon) (nds : List tN) (n : Nat) : Bool := t_and (t_wf c) (t_and (t_all (t_wn (t_nc c)) nds) (t_and (t_ce C c nds n) (t_all (t_cn C c nds n) nds)))
