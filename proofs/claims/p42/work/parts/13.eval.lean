/-! the evaluator -/
noncomputable section
noncomputable abbrev zz_S : Type := Nat × List (Option Value) × List Value × zz_W × Nat × Nat
noncomputable def zz_fnd (pc : Nat) : List zz_I → Option zz_I
  | [] => none
  | e :: r => match Nat.beq e.1 pc with
    | true => some e
    | false => zz_fnd pc r
noncomputable def zz_fetch (code : List (List zz_I)) (pc : Nat) : Option zz_I := match code[pc / 16]? with
  | some ch => zz_fnd pc ch
  | none => none
-- of a polymorphic call: by the receiver's class, the method and the word that selects it
noncomputable def zz_alt (ci : Nat) : List Nat → Option (Nat × Nat)
  | a :: k :: w :: r => match Nat.beq a ci with
    | true => some (k, w)
    | false => zz_alt ci r
  | _ => none
noncomputable def zz_alts (C : Nat → Option String) (x : MethodName) : List Nat → Bool
  | a :: k :: w :: r => (match classes[a]? with
    | some q => match zz_mts[k]? with
      | some (y, _, _, _, _, stt, _, _, _) => !stt && zz_wd w (.selects q.1 x y)
      | none => false
    | none => false) && zz_alts C x r
  | _ => true
noncomputable def zz_rc (n : Nat) (st : List Value) (cs : zz_W) : Option Nat := match st[n]? with
  | some (.ref i) => match zz_cell cs i with
    | some (.inr (.inr (ci, _))) => some ci
    | _ => none
  | _ => none
noncomputable def zz_rcq (n : Nat) (st : List Value) (cs : zz_W) : Option Nat := match st[n]? with
  | some (.ref i) => match zz_cq cs i with
    | some (.inr (.inr (ci, _))) => some ci
    | _ => none
  | _ => none
theorem zz_rce (n : Nat) (st : List Value) (cs : zz_W) : zz_rcq n st cs = zz_rc n st cs := by
  unfold zz_rcq zz_rc
  simp only [zz_cq_eq]
-- the method that a call comes to
noncomputable def zz_ca (ins : Instr) (r : List Nat) (st : List Value) (cs : zz_W) : Option zz_Mi := match ins with
  | .invokestatic _ => match r with
    | [3, k, _] => zz_mts[k]?
    | [4, k, _] => zz_mts[k]?
    | _ => none
  | .invokespecial _ => match r with
    | [5, k, _] => match zz_mts[k]? with
      | some mi => match zz_rc mi.2.2.2.2.1 st cs with
        | some _ => some mi
        | none => none
      | none => none
    | [6, k, _] => match zz_mts[k]? with
      | some mi => match zz_rc mi.2.2.2.2.1 st cs with
        | some _ => some mi
        | none => none
      | none => none
    | [9, k, _, _, _, _, _] => match zz_mts[k]? with
      | some mi => match zz_rc mi.2.2.2.2.1 st cs with
        | some _ => some mi
        | none => none
      | none => none
    | [7, k, _, _, _] => match zz_mts[k]? with
      | some mi => match zz_rc mi.2.2.2.2.1 st cs with
        | some _ => some mi
        | none => none
      | none => none
    | _ => none
  | .invokevirtual _ => match r with
    | [1, k, ci, _, _] => match zz_mts[k]? with
      | some mi => match zz_rc mi.2.2.2.2.1 st cs with
        | some cj => if cj = ci then some mi else none
        | none => none
      | none => none
    | [2, k, ci, _, _] => match zz_mts[k]? with
      | some mi => match zz_rc mi.2.2.2.2.1 st cs with
        | some cj => if cj = ci then some mi else none
        | none => none
      | none => none
    | 8 :: k :: _ :: _ :: alts => match zz_mts[k]? with
      | some mx => match zz_rc mx.2.2.2.2.1 st cs with
        | some cj => match zz_alt cj alts with
          | some (k', _) => match zz_mts[k']? with
            | some mi => if mi.2.2.2.2.1 = mx.2.2.2.2.1 then some mi else none
            | none => none
          | none => none
        | none => none
      | none => none
    | _ => none
  | _ => none
noncomputable def zz_caq (ins : Instr) (r : List Nat) (st : List Value) (cs : zz_W) : Option zz_Mi := match ins with
  | .invokestatic _ => match r with
    | [3, k, _] => zz_pth zz_mts k
    | [4, k, _] => zz_pth zz_mts k
    | _ => none
  | .invokespecial _ => match r with
    | [5, k, _] => match zz_pth zz_mts k with
      | some mi => match zz_rcq mi.2.2.2.2.1 st cs with
        | some _ => some mi
        | none => none
      | none => none
    | [6, k, _] => match zz_pth zz_mts k with
      | some mi => match zz_rcq mi.2.2.2.2.1 st cs with
        | some _ => some mi
        | none => none
      | none => none
    | [9, k, _, _, _, _, _] => match zz_pth zz_mts k with
      | some mi => match zz_rcq mi.2.2.2.2.1 st cs with
        | some _ => some mi
        | none => none
      | none => none
    | [7, k, _, _, _] => match zz_pth zz_mts k with
      | some mi => match zz_rcq mi.2.2.2.2.1 st cs with
        | some _ => some mi
        | none => none
      | none => none
    | _ => none
  | .invokevirtual _ => match r with
    | [1, k, ci, _, _] => match zz_pth zz_mts k with
      | some mi => match zz_rcq mi.2.2.2.2.1 st cs with
        | some cj => if cj = ci then some mi else none
        | none => none
      | none => none
    | [2, k, ci, _, _] => match zz_pth zz_mts k with
      | some mi => match zz_rcq mi.2.2.2.2.1 st cs with
        | some cj => if cj = ci then some mi else none
        | none => none
      | none => none
    | 8 :: k :: _ :: _ :: alts => match zz_pth zz_mts k with
      | some mx => match zz_rcq mx.2.2.2.2.1 st cs with
        | some cj => match zz_alt cj alts with
          | some (k', _) => match zz_pth zz_mts k' with
            | some mi => if mi.2.2.2.2.1 = mx.2.2.2.2.1 then some mi else none
            | none => none
          | none => none
        | none => none
      | none => none
    | _ => none
  | _ => none
theorem zz_cae (ins : Instr) (r : List Nat) (st : List Value) (cs : zz_W) : zz_caq ins r st cs = zz_ca ins r st cs := by
  unfold zz_caq zz_ca
  simp only [zz_pth_eq, zz_rce]
-- what the tables must say of a call
noncomputable def zz_tc2 (own : String) (ins : Instr) (r : List Nat) : Bool := match ins with
  | .invokestatic idx => match r with
    | [3, k, w] => match zz_mts[k]? with
      | some mi => mi.2.2.2.2.2.1 && zz_wd w (.methodLink own idx mi.1)
      | none => false
    | [4, k, w] => match zz_mts[k]? with
      | some mi => mi.2.2.2.2.2.1 && zz_wd w (.methodLinkNest own idx mi.1 zz_host)
      | none => false
    | _ => true
  | .invokespecial idx => match r with
    | [5, k, w] => match zz_mts[k]? with
      | some mi => !mi.2.2.2.2.2.1 && (zz_wd w (.methodLink own idx mi.1) && (decide (mi.2.2.2.1 = none) && decide (mi.1.name = "<init>")))
      | none => false
    | [6, k, w] => match zz_mts[k]? with
      | some mi => !mi.2.2.2.2.2.1 && (zz_wd w (.methodLinkNest own idx mi.1 zz_host) && (decide (mi.2.2.2.1 = none) && decide (mi.1.name = "<init>")))
      | none => false
    | [9, k, cx, w, wm, wu, wv] => match zz_mts[k]? with
      | some mi => match classes[cx]? with
        | some q => !mi.2.2.2.2.2.1 && (zz_wd w (.methodLink own idx ⟨q.1, mi.1.name, mi.1.desc⟩) && (zz_wd wm (.sameMethod q.1 mi.1.cls mi.1.name mi.1.desc) && (zz_wd wu (.superclass own q.1) && (zz_wd wv (.superclass q.1 mi.1.cls) && !decide (mi.1.name = "<init>")))))
        | none => false
      | none => false
    | [7, k, w, wm, wu] => match zz_mts[k]? with
      | some mi => !mi.2.2.2.2.2.1 && (zz_wd w (.methodLink own idx mi.1) && (zz_wd wm (.sameMethod mi.1.cls mi.1.cls mi.1.name mi.1.desc) && (zz_wd wu (.superclass own mi.1.cls) && !decide (mi.1.name = "<init>"))))
      | none => false
    | _ => true
  | .invokevirtual idx => match r with
    | [1, k, ci, w, w'] => match zz_mts[k]? with
      | some mi => match classes[ci]? with
        | some q => !mi.2.2.2.2.2.1 && (zz_wd w (.methodLink own idx mi.1) && (zz_wd w' (.selects mi.1.cls mi.1 mi.1) && decide (q.1 = mi.1.cls)))
        | none => false
      | none => false
    | [2, k, ci, w, w'] => match zz_mts[k]? with
      | some mi => match classes[ci]? with
        | some q => !mi.2.2.2.2.2.1 && (zz_wd w (.methodLinkNest own idx mi.1 zz_host) && (zz_wd w' (.selects mi.1.cls mi.1 mi.1) && decide (q.1 = mi.1.cls)))
        | none => false
      | none => false
    | 8 :: k :: w :: wm :: alts => match zz_mts[k]? with
      | some mx => !mx.2.2.2.2.2.1 && (zz_wd w (.methodLink own idx mx.1) && (zz_wd wm (.sameMethod mx.1.cls mx.1.cls mx.1.name mx.1.desc) && zz_alts (fun _ => none) mx.1 alts))
      | none => false
    | _ => true
  | _ => true
noncomputable def zz_tc2q (own : String) (ins : Instr) (r : List Nat) : Bool := match ins with
  | .invokestatic idx => match r with
    | [3, k, w] => match zz_pth zz_mts k with
      | some mi => mi.2.2.2.2.2.1 && zz_wd w (.methodLink own idx mi.1)
      | none => false
    | [4, k, w] => match zz_pth zz_mts k with
      | some mi => mi.2.2.2.2.2.1 && zz_wd w (.methodLinkNest own idx mi.1 zz_host)
      | none => false
    | _ => true
  | .invokespecial idx => match r with
    | [5, k, w] => match zz_pth zz_mts k with
      | some mi => !mi.2.2.2.2.2.1 && (zz_wd w (.methodLink own idx mi.1) && (decide (mi.2.2.2.1 = none) && decide (mi.1.name = "<init>")))
      | none => false
    | [6, k, w] => match zz_pth zz_mts k with
      | some mi => !mi.2.2.2.2.2.1 && (zz_wd w (.methodLinkNest own idx mi.1 zz_host) && (decide (mi.2.2.2.1 = none) && decide (mi.1.name = "<init>")))
      | none => false
    | [9, k, cx, w, wm, wu, wv] => match zz_pth zz_mts k with
      | some mi => match classes[cx]? with
        | some q => !mi.2.2.2.2.2.1 && (zz_wd w (.methodLink own idx ⟨q.1, mi.1.name, mi.1.desc⟩) && (zz_wd wm (.sameMethod q.1 mi.1.cls mi.1.name mi.1.desc) && (zz_wd wu (.superclass own q.1) && (zz_wd wv (.superclass q.1 mi.1.cls) && !decide (mi.1.name = "<init>")))))
        | none => false
      | none => false
    | [7, k, w, wm, wu] => match zz_pth zz_mts k with
      | some mi => !mi.2.2.2.2.2.1 && (zz_wd w (.methodLink own idx mi.1) && (zz_wd wm (.sameMethod mi.1.cls mi.1.cls mi.1.name mi.1.desc) && (zz_wd wu (.superclass own mi.1.cls) && !decide (mi.1.name = "<init>"))))
      | none => false
    | _ => true
  | .invokevirtual idx => match r with
    | [1, k, ci, w, w'] => match zz_pth zz_mts k with
      | some mi => match classes[ci]? with
        | some q => !mi.2.2.2.2.2.1 && (zz_wd w (.methodLink own idx mi.1) && (zz_wd w' (.selects mi.1.cls mi.1 mi.1) && decide (q.1 = mi.1.cls)))
        | none => false
      | none => false
    | [2, k, ci, w, w'] => match zz_pth zz_mts k with
      | some mi => match classes[ci]? with
        | some q => !mi.2.2.2.2.2.1 && (zz_wd w (.methodLinkNest own idx mi.1 zz_host) && (zz_wd w' (.selects mi.1.cls mi.1 mi.1) && decide (q.1 = mi.1.cls)))
        | none => false
      | none => false
    | 8 :: k :: w :: wm :: alts => match zz_pth zz_mts k with
      | some mx => !mx.2.2.2.2.2.1 && (zz_wd w (.methodLink own idx mx.1) && (zz_wd wm (.sameMethod mx.1.cls mx.1.cls mx.1.name mx.1.desc) && zz_alts (fun _ => none) mx.1 alts))
      | none => false
    | _ => true
  | _ => true
theorem zz_tc2e (own : String) (ins : Instr) (r : List Nat) : zz_tc2 own ins r = zz_tc2q own ins r := by
  unfold zz_tc2 zz_tc2q
  simp only [zz_pth_eq]
noncomputable def zz_chk (own nm : String) (b : ByteArray) (e : zz_I) : Bool := match e with
  | (pc, ins, len, r, v0) => decide (decode b pc = .ok (ins, len)) && ((decide (zz_len ins = 0) || decide (len = zz_len ins)) && (zz_tb own nm ins r v0 && (zz_at3 own ins r && (zz_tn own ins r && zz_tc2 own ins r))))
noncomputable def zz_cdk (mi : zz_Mi) : Bool := mi.2.2.2.2.2.2.2.2.all (fun ch => ch.all (zz_chk mi.1.cls mi.1.name mi.2.1))
/-- one step inside a method, no call, no return -/
noncomputable def zz_one (q : Nat × Nat × Nat × Nat) (e : zz_I) (σ : zz_S) : Option zz_S := match σ with
  | (pc, L, st, cs, cu, su) => match zz_da e.2.1 pc L st with
    | some (pc', L', st') => some (pc', L', st', cs, cu, su)
    | none => match zz_db e.2.1 e.2.2.2.1 e.2.2.2.2 pc L st cs with
      | some (pc', L', st', cs') => some (pc', L', st', cs', cu, su)
      | none => match zz_al e.2.1 e.2.2.2.1 q.1 q.2.1 pc L st cs cu su with
        | some σ' => some σ'
        | none => match zz_na e.2.1 e.2.2.2.1 q.2.2.1 q.2.2.2 pc L st cs with
          | some (pc', L', st', cs') => some (pc', L', st', cs', cu, su)
          | none => none
noncomputable def zz_oneq (q : Nat × Nat × Nat × Nat) (e : zz_I) (σ : zz_S) : Option zz_S := match σ with
  | (pc, L, st, cs, cu, su) => match zz_da e.2.1 pc L st with
    | some (pc', L', st') => some (pc', L', st', cs, cu, su)
    | none => match zz_dbq e.2.1 e.2.2.2.1 e.2.2.2.2 pc L st cs with
      | some (pc', L', st', cs') => some (pc', L', st', cs', cu, su)
      | none => match zz_alq e.2.1 e.2.2.2.1 q.1 q.2.1 pc L st cs cu su with
        | some σ' => some σ'
        | none => match zz_na e.2.1 e.2.2.2.1 q.2.2.1 q.2.2.2 pc L st cs with
          | some (pc', L', st', cs') => some (pc', L', st', cs', cu, su)
          | none => none
theorem zz_onee (q : Nat × Nat × Nat × Nat) (e : zz_I) (σ : zz_S) : zz_oneq q e σ = zz_one q e σ := by
  unfold zz_oneq zz_one
  simp only [zz_dbe, zz_ale]
noncomputable def zz_rt1 (ins : Instr) (ret : Option FieldType) (st : List Value) : Option (Option Value) := match ins with
  | .ireturn => match st with
    | [.int v] => match ret with
      | some .int => some (some (.int v))
      | some .boolean => if v = 0 ∨ v = 1 then some (some (.int v)) else none
      | _ => none
    | _ => none
  | .lreturn => match st with
    | [.long v] => match ret with
      | some .long => some (some (.long v))
      | _ => none
    | _ => none
  | .return_ => match st with
    | [] => match ret with
      | none => some none
      | _ => none
    | _ => none
  | _ => none
noncomputable def zz_en : List Value → List (Option Value)
  | [] => []
  | v :: vs => if v.category = 2 then some v :: none :: zz_en vs else some v :: zz_en vs
noncomputable def zz_ent (nL : Nat) (as : List Value) : List (Option Value) := zz_en as ++ List.replicate (nL - (zz_en as).length) none
noncomputable def zz_cn (mi : zz_Mi) : Nat := match mi.2.2.2.2.2.1 with
  | true => mi.2.2.2.2.1
  | false => mi.2.2.2.2.1 + 1
noncomputable def zz_cok2 (q : Nat × Nat × Nat × Nat) (mk : zz_Mi) (σ : zz_S) : Bool := decide (zz_cn mk ≤ σ.2.2.1.length) && (decide (zz_ss (σ.2.2.1.drop (zz_cn mk)) ≤ 8) && (decide (σ.2.2.2.2.1 + mk.2.2.2.2.2.2.1.1 ≤ q.1) && (decide (σ.2.2.2.2.2 + mk.2.2.2.2.2.2.1.2.1 ≤ q.2.1) && (decide ((zz_en (σ.2.2.1.take (zz_cn mk)).reverse).length ≤ mk.2.2.1) && (decide (mk.2.2.2.2.2.2.1.2.2.1 + 1 ≤ q.2.2.1) && decide (8 + (mk.2.2.1 + 11) + mk.2.2.2.2.2.2.1.2.2.2 ≤ q.2.2.2))))))
noncomputable def zz_ev : Nat → zz_Mi → zz_S → Option (Option Value × zz_W)
  | 0, _, _ => none
  | n + 1, mi, σ => match zz_fetch mi.2.2.2.2.2.2.2.2 σ.1 with
    | none => none
    | some e => match zz_one mi.2.2.2.2.2.2.1 e σ with
      | some σ' => zz_ev n mi σ'
      | none => match zz_rt1 e.2.1 mi.2.2.2.1 σ.2.2.1 with
        | some v => some (v, σ.2.2.2.1)
        | none => match zz_ca e.2.1 e.2.2.2.1 σ.2.2.1 σ.2.2.2.1 with
          | none => none
          | some mj => match zz_cok2 mi.2.2.2.2.2.2.1 mj σ with
            | false => none
            | true => match zz_ev n mj (0, zz_ent mj.2.2.1 (σ.2.2.1.take (zz_cn mj)).reverse, [], σ.2.2.2.1, 0, 0) with
              | none => none
              | some (v, cs') => zz_ev n mi (σ.1 + 3, σ.2.1, v.toList ++ σ.2.2.1.drop (zz_cn mj), cs', σ.2.2.2.2.1 + mj.2.2.2.2.2.2.1.1, σ.2.2.2.2.2 + mj.2.2.2.2.2.2.1.2.1)
/-- a list's spine told outright -/
noncomputable def zz_frc {α β : Type} (l : List α) : (List α → β) → β := List.rec (motive := fun _ => (List α → β) → β) (fun k => k []) (fun a _ ih k => ih (fun t => k (a :: t))) l
theorem zz_frc_eq {α β : Type} : ∀ (l : List α) (k : List α → β), zz_frc l k = k l
  | [], _ => rfl
  | a :: l, k => zz_frc_eq l (fun t => k (a :: t))
noncomputable def zz_evs : Nat → zz_Mi → zz_S → Option (Option Value × zz_W)
  | 0, _, _ => none
  | n + 1, mi, σ => match zz_fetch mi.2.2.2.2.2.2.2.2 σ.1 with
    | none => none
    | some e => match zz_oneq mi.2.2.2.2.2.2.1 e σ with
      | some σ' => zz_evs n mi σ'
      | none => match zz_rt1 e.2.1 mi.2.2.2.1 σ.2.2.1 with
        | some v => some (v, σ.2.2.2.1)
        | none => match zz_caq e.2.1 e.2.2.2.1 σ.2.2.1 σ.2.2.2.1 with
          | none => none
          | some mj => match zz_cok2 mi.2.2.2.2.2.2.1 mj σ with
            | false => none
            | true => match zz_evs n mj (0, zz_ent mj.2.2.1 (σ.2.2.1.take (zz_cn mj)).reverse, [], σ.2.2.2.1, 0, 0) with
              | none => none
              | some (v, cs') => zz_frc cs' (fun cs2 => zz_evs n mi (σ.1 + 3, σ.2.1, v.toList ++ σ.2.2.1.drop (zz_cn mj), cs2, σ.2.2.2.2.1 + mj.2.2.2.2.2.2.1.1, σ.2.2.2.2.2 + mj.2.2.2.2.2.2.1.2.1))
theorem zz_evs_eq : ∀ (n : Nat) (mi : zz_Mi) (σ : zz_S), zz_evs n mi σ = zz_ev n mi σ
  | 0, _, _ => rfl
  | n + 1, mi, σ => by
    have ih := zz_evs_eq n
    unfold zz_evs zz_ev
    simp only [zz_frc_eq, ih, zz_onee, zz_cae]
end
