/-! one step of the pure machine, without cells: constants, locals, the stack, arithmetic, branches -/
theorem zz_tg_eq {pc tgt : Nat} {off : Int} (h : zz_tg pc off = some tgt) : (pc : Int) + off = (tgt : Int) := by
  unfold zz_tg at h
  split at h
  · rename_i t ht
    cases h
    exact ht
  · cases h
section ZZ1
variable {g : zz_G} {p : Program} {l : Launch} {e : Env} {R : Room} {s : State} {m : MethodId} {args : Array Value} {below : List Frame} {meth : Method} {c : Code} {Q : State → Prop} {cc : ByteArray} {nL pc pc' n cu su : Nat} {L L' : List (Option Value)} {st st' : List Value} {c0 cs cs' : zz_W}
/-- a frame of the real machine that shows the pure one: it comes to a state with Q -/
def zz_Z (g : zz_G) (c0 : zz_W) (p : Program) (l : Launch) (e : Env) (R : Room) (s : State) (m : MethodId) (args : Array Value) (below : List Frame) (meth : Method) (c : Code) (Q : State → Prop) (nL pc : Nat) (L : List (Option Value)) (st : List Value) (cs : zz_W) (cu su : Nat) : Prop :=
  L.length = nL → ∀ (H : Heap) (locs : List Loc) (ls : Array Slot), zz_R g s c0 cs H locs → lv_has ls nL (zz_as g L) → W p l e R s m args below meth c H locs cu su Q (F0 m pc ls (st.map (zz_tr g)))
theorem zz_sv_len (L : List (Option Value)) (i : Nat) (v : Value) : (zz_sv L i v).length = L.length := by
  unfold zz_sv
  split <;> simp [zz_cl_len]
theorem zz_pi_ok {v : Option Value} (h : zz_pi n L v st = some (pc', L', st')) : ∃ x, v = some (.int x) ∧ pc' = n ∧ L' = L ∧ st' = .int x :: st := by
  unfold zz_pi at h
  split at h
  · cases h; exact ⟨_, rfl, rfl, rfl, rfl⟩
  · cases h
theorem zz_pl_ok {v : Option Value} (h : zz_pl n L v st = some (pc', L', st')) : ∃ x, v = some (.long x) ∧ pc' = n ∧ L' = L ∧ st' = .long x :: st := by
  unfold zz_pl at h
  split at h
  · cases h; exact ⟨_, rfl, rfl, rfl, rfl⟩
  · cases h
theorem zz_pr_ok {v : Option Value} (h : zz_pr n L v st = some (pc', L', st')) : ∃ x, v = some (.ref x) ∧ pc' = n ∧ L' = L ∧ st' = .ref x :: st := by
  unfold zz_pr at h
  split at h
  · cases h; exact ⟨_, rfl, rfl, rfl, rfl⟩
  · cases h
theorem zz_si_ok {i : Nat} (h : zz_si n L i st = some (pc', L', st')) : ∃ x, st = .int x :: st' ∧ i < L.length ∧ pc' = n ∧ L' = zz_sv L i (.int x) := by
  unfold zz_si at h
  split at h
  · split at h
    · cases h; exact ⟨_, rfl, by assumption, rfl, rfl⟩
    · cases h
  · cases h
theorem zz_sl_ok {i : Nat} (h : zz_sl n L i st = some (pc', L', st')) : ∃ x, st = .long x :: st' ∧ i + 1 < L.length ∧ pc' = n ∧ L' = zz_sv L i (.long x) := by
  unfold zz_sl at h
  split at h
  · split at h
    · cases h; exact ⟨_, rfl, by assumption, rfl, rfl⟩
    · cases h
  · cases h
theorem zz_sr_ok {i : Nat} (h : zz_sr n L i st = some (pc', L', st')) : ∃ x, st = .ref x :: st' ∧ i < L.length ∧ pc' = n ∧ L' = zz_sv L i (.ref x) := by
  unfold zz_sr at h
  split at h
  · split at h
    · cases h; exact ⟨_, rfl, by assumption, rfl, rfl⟩
    · cases h
  · cases h
theorem zz_i2_ok {f : Int32 → Int32 → Int32} (h : zz_i2 n L st f = some (pc', L', st')) : ∃ x y r, st = .int y :: .int x :: r ∧ pc' = n ∧ L' = L ∧ st' = .int (f x y) :: r := by
  unfold zz_i2 at h
  split at h
  · cases h; exact ⟨_, _, _, rfl, rfl, rfl, rfl⟩
  · cases h
theorem zz_i2n_ok {f : Int32 → Int32 → Int32} (h : zz_i2n n L st f = some (pc', L', st')) : ∃ x y r, st = .int y :: .int x :: r ∧ ¬ y = 0 ∧ pc' = n ∧ L' = L ∧ st' = .int (f x y) :: r := by
  unfold zz_i2n at h
  split at h
  · split at h
    · cases h
    · cases h; exact ⟨_, _, _, rfl, by assumption, rfl, rfl, rfl⟩
  · cases h
theorem zz_l2_ok {f : Int64 → Int64 → Int64} (h : zz_l2 n L st f = some (pc', L', st')) : ∃ x y r, st = .long y :: .long x :: r ∧ pc' = n ∧ L' = L ∧ st' = .long (f x y) :: r := by
  unfold zz_l2 at h
  split at h
  · cases h; exact ⟨_, _, _, rfl, rfl, rfl, rfl⟩
  · cases h
theorem zz_l2n_ok {f : Int64 → Int64 → Int64} (h : zz_l2n n L st f = some (pc', L', st')) : ∃ x y r, st = .long y :: .long x :: r ∧ ¬ y = 0 ∧ pc' = n ∧ L' = L ∧ st' = .long (f x y) :: r := by
  unfold zz_l2n at h
  split at h
  · split at h
    · cases h
    · cases h; exact ⟨_, _, _, rfl, by assumption, rfl, rfl, rfl⟩
  · cases h
theorem zz_go_ok {t : Option Nat} (h : zz_go L st t = some (pc', L', st')) : t = some pc' ∧ L' = L ∧ st' = st := by
  unfold zz_go at h
  split at h
  · cases h; exact ⟨rfl, rfl, rfl⟩
  · cases h
theorem zz_br_ok {b : Bool} {off : Int} (h : zz_br b pc off = some pc') : ∃ t : Nat, (pc : Int) + off = (t : Int) ∧ ((b = true ∧ pc' = t) ∨ (b = false ∧ pc' = pc + 3)) := by
  unfold zz_br at h
  split at h
  · rename_i t ht
    refine ⟨t, zz_tg_eq ht, ?_⟩
    cases b
    · cases h; exact Or.inr ⟨rfl, rfl⟩
    · cases h; exact Or.inl ⟨rfl, rfl⟩
  · cases h
set_option maxHeartbeats 4000000 in
theorem zz_da_ok (hx : p.tables.exec = Jvm.exec) (hb : c.code = cc) {ins : Instr} {len : Nat} (hd : decode cc pc = .ok (ins, len)) (hlen : zz_len ins = 0 ∨ len = zz_len ins) (h : zz_da ins pc L st = some (pc', L', st'))
    (kk : zz_Z g c0 p l e R s m args below meth c Q nL pc' L' st' cs cu su) : zz_Z g c0 p l e R s m args below meth c Q nL pc L st cs cu su := by
  intro hnL H locs ls hR hl
  have kk := fun h2 => kk h2 H locs
  have lenO : ∀ k : Nat, (k + 1 = 0 ∨ len = k + 1) → len = k + 1 := fun k q => q.resolve_left (by omega)
  cases ins with
  | iconst n => cases lenO _ hlen; cases h; exact lv_iconst hx hb hd rfl (kk hnL ls hR hl)
  | bipush n => cases lenO _ hlen; cases h; exact lv_bipush hx hb hd rfl (kk hnL ls hR hl)
  | sipush n => cases lenO _ hlen; cases h; exact lv_sipush hx hb hd rfl (kk hnL ls hR hl)
  | lconst n => cases lenO _ hlen; cases h; exact lv_lconst hx hb hd rfl (kk hnL ls hR hl)
  | iload_n k => cases lenO _ hlen; obtain ⟨x, h1, rfl, rfl, rfl⟩ := zz_pi_ok h; exact lv_iload_n hx hb hd rfl (zz_lv hl (zz_ld_eq h1)) (kk hnL ls hR hl)
  | iload k => cases lenO _ hlen; obtain ⟨x, h1, rfl, rfl, rfl⟩ := zz_pi_ok h; exact lv_iload hx hb hd (zz_lv hl (zz_ld_eq h1)) (kk hnL ls hR hl)
  | lload_n k => cases lenO _ hlen; obtain ⟨x, h1, rfl, rfl, rfl⟩ := zz_pl_ok h; exact lv_lload_n hx hb hd rfl (zz_lv hl (zz_ld_eq h1)) (kk hnL ls hR hl)
  | lload k => cases lenO _ hlen; obtain ⟨x, h1, rfl, rfl, rfl⟩ := zz_pl_ok h; exact lv_lload hx hb hd (zz_lv hl (zz_ld_eq h1)) (kk hnL ls hR hl)
  | aload_n k => cases lenO _ hlen; obtain ⟨x, h1, rfl, rfl, rfl⟩ := zz_pr_ok h; exact lv_aload_n hx hb hd rfl (zz_lv hl (zz_ld_eq h1)) (kk hnL ls hR hl)
  | aload k => cases lenO _ hlen; obtain ⟨x, h1, rfl, rfl, rfl⟩ := zz_pr_ok h; exact lv_aload hx hb hd (zz_lv hl (zz_ld_eq h1)) (kk hnL ls hR hl)
  | istore_n k => cases lenO _ hlen; obtain ⟨x, rfl, h1, rfl, rfl⟩ := zz_si_ok h; exact lv_istore_n hx hb hd rfl hl (by omega) rfl (fun ls' hl' => kk ((zz_sv_len _ _ _).trans hnL) ls' hR (zz_sv1 (v := .int x) rfl hl'))
  | istore k => cases lenO _ hlen; obtain ⟨x, rfl, h1, rfl, rfl⟩ := zz_si_ok h; exact lv_istore hx hb hd hl (by omega) rfl (fun ls' hl' => kk ((zz_sv_len _ _ _).trans hnL) ls' hR (zz_sv1 (v := .int x) rfl hl'))
  | lstore_n k => cases lenO _ hlen; obtain ⟨x, rfl, h1, rfl, rfl⟩ := zz_sl_ok h; exact lv_lstore_n hx hb hd rfl hl (by omega) rfl (fun ls' hl' => kk ((zz_sv_len _ _ _).trans hnL) ls' hR (zz_sv2 (v := .long x) rfl hl'))
  | lstore k => cases lenO _ hlen; obtain ⟨x, rfl, h1, rfl, rfl⟩ := zz_sl_ok h; exact lv_lstore hx hb hd hl (by omega) rfl (fun ls' hl' => kk ((zz_sv_len _ _ _).trans hnL) ls' hR (zz_sv2 (v := .long x) rfl hl'))
  | astore_n k => cases lenO _ hlen; obtain ⟨x, rfl, h1, rfl, rfl⟩ := zz_sr_ok h; exact lv_astore_n hx hb hd rfl hl (by omega) rfl (fun ls' hl' => kk ((zz_sv_len _ _ _).trans hnL) ls' hR (zz_sv1 (v := .ref x) rfl hl'))
  | astore k => cases lenO _ hlen; obtain ⟨x, rfl, h1, rfl, rfl⟩ := zz_sr_ok h; exact lv_astore hx hb hd hl (by omega) rfl (fun ls' hl' => kk ((zz_sv_len _ _ _).trans hnL) ls' hR (zz_sv1 (v := .ref x) rfl hl'))
  | iinc k n =>
    cases lenO _ hlen
    simp only [zz_da] at h
    split at h
    · rename_i x hv
      cases h
      have h1 := zz_ld_eq hv
      obtain ⟨j, hj⟩ := List.getElem?_of_mem (zz_as_mem (g := g) h1)
      have hlt : k < L.length := (List.getElem?_eq_some_iff.mp h1).1
      exact lv_iinc hx hb hd hl hj rfl (by omega) rfl (fun ls' hl' => kk ((zz_sv_len _ _ _).trans hnL) ls' hR (zz_sv1 (v := .int (x + Int32.ofInt n)) rfl hl'))
    · cases h
  | iadd => cases lenO _ hlen; obtain ⟨x, y, r, rfl, rfl, rfl, rfl⟩ := zz_i2_ok h; exact lv_iadd hx hb hd (kk hnL ls hR hl)
  | isub => cases lenO _ hlen; obtain ⟨x, y, r, rfl, rfl, rfl, rfl⟩ := zz_i2_ok h; exact lv_isub hx hb hd (kk hnL ls hR hl)
  | imul => cases lenO _ hlen; obtain ⟨x, y, r, rfl, rfl, rfl, rfl⟩ := zz_i2_ok h; exact lv_imul hx hb hd (kk hnL ls hR hl)
  | iand => cases lenO _ hlen; obtain ⟨x, y, r, rfl, rfl, rfl, rfl⟩ := zz_i2_ok h; exact lv_iand hx hb hd (kk hnL ls hR hl)
  | ior => cases lenO _ hlen; obtain ⟨x, y, r, rfl, rfl, rfl, rfl⟩ := zz_i2_ok h; exact lv_ior hx hb hd (kk hnL ls hR hl)
  | ixor => cases lenO _ hlen; obtain ⟨x, y, r, rfl, rfl, rfl, rfl⟩ := zz_i2_ok h; exact lv_ixor hx hb hd (kk hnL ls hR hl)
  | ishl => cases lenO _ hlen; obtain ⟨x, y, r, rfl, rfl, rfl, rfl⟩ := zz_i2_ok h; exact lv_ishl hx hb hd (kk hnL ls hR hl)
  | ishr => cases lenO _ hlen; obtain ⟨x, y, r, rfl, rfl, rfl, rfl⟩ := zz_i2_ok h; exact lv_ishr hx hb hd (kk hnL ls hR hl)
  | iushr => cases lenO _ hlen; obtain ⟨x, y, r, rfl, rfl, rfl, rfl⟩ := zz_i2_ok h; exact lv_iushr hx hb hd rfl (kk hnL ls hR hl)
  | idiv => cases lenO _ hlen; obtain ⟨x, y, r, rfl, hne, rfl, rfl, rfl⟩ := zz_i2n_ok h; exact lv_idiv hx hb hd hne (kk hnL ls hR hl)
  | irem => cases lenO _ hlen; obtain ⟨x, y, r, rfl, hne, rfl, rfl, rfl⟩ := zz_i2n_ok h; exact lv_irem hx hb hd hne (kk hnL ls hR hl)
  | ineg =>
    cases lenO _ hlen
    simp only [zz_da] at h
    split at h
    · cases h; exact lv_ineg hx hb hd (kk hnL ls hR hl)
    · cases h
  | i2l =>
    cases lenO _ hlen
    simp only [zz_da] at h
    split at h
    · cases h; exact lv_i2l hx hb hd rfl (kk hnL ls hR hl)
    · cases h
  | l2i =>
    cases lenO _ hlen
    simp only [zz_da] at h
    split at h
    · cases h; exact lv_l2i hx hb hd rfl (kk hnL ls hR hl)
    · cases h
  | ladd => cases lenO _ hlen; obtain ⟨x, y, r, rfl, rfl, rfl, rfl⟩ := zz_l2_ok h; exact lv_ladd hx hb hd (kk hnL ls hR hl)
  | lsub => cases lenO _ hlen; obtain ⟨x, y, r, rfl, rfl, rfl, rfl⟩ := zz_l2_ok h; exact lv_lsub hx hb hd (kk hnL ls hR hl)
  | lmul => cases lenO _ hlen; obtain ⟨x, y, r, rfl, rfl, rfl, rfl⟩ := zz_l2_ok h; exact lv_lmul hx hb hd (kk hnL ls hR hl)
  | ldiv => cases lenO _ hlen; obtain ⟨x, y, r, rfl, hne, rfl, rfl, rfl⟩ := zz_l2n_ok h; exact lv_ldiv hx hb hd hne (kk hnL ls hR hl)
  | lrem => cases lenO _ hlen; obtain ⟨x, y, r, rfl, hne, rfl, rfl, rfl⟩ := zz_l2n_ok h; exact lv_lrem hx hb hd hne (kk hnL ls hR hl)
  | lcmp =>
    cases lenO _ hlen
    simp only [zz_da] at h
    split at h
    · cases h; exact W.lcmp hx hb hd (kk hnL ls hR hl)
    · cases h
  | dup =>
    cases lenO _ hlen
    simp only [zz_da] at h
    split at h
    · split at h
      · rename_i v r hc
        cases h
        exact lv_dup hx hb hd ((zz_tr_cat g v).trans hc) (kk hnL ls hR hl)
      · cases h
    · cases h
  | pop =>
    cases lenO _ hlen
    simp only [zz_da] at h
    split at h
    · split at h
      · rename_i v r hc
        cases h
        exact lv_pop hx hb hd ((zz_tr_cat g v).trans hc) (kk hnL ls hR hl)
      · cases h
    · cases h
  | dup2 =>
    cases lenO _ hlen
    simp only [zz_da] at h
    split at h
    · split at h
      · rename_i v w r hc
        cases h
        exact lv_dup2_11 hx hb hd ((zz_tr_cat g v).trans hc.1) ((zz_tr_cat g w).trans hc.2) (kk hnL ls hR hl)
      · cases h
    · cases h
  | goto off => cases lenO _ hlen; obtain ⟨h1, rfl, rfl⟩ := zz_go_ok h; exact lv_goto hx hb hd (zz_tg_eq h1) (kk hnL ls hR hl)
  | ifCond op off =>
    cases lenO _ hlen
    simp only [zz_da] at h
    split at h
    · rename_i x r
      obtain ⟨h1, rfl, rfl⟩ := zz_go_ok h
      have k0 := kk hnL ls hR hl
      obtain ⟨t, ht, hb1 | hb1⟩ := zz_br_ok h1
      · obtain ⟨hb1, rfl⟩ := hb1
        cases op <;> simp only [zz_if, decide_eq_true_eq, Bool.not_eq_true', decide_eq_false_iff_not] at hb1
        · exact lv_if_eq hx hb hd ht (fun _ => k0) (fun q => absurd hb1 q)
        · exact lv_if_ne hx hb hd ht (fun _ => k0) (fun q => absurd q hb1)
        · exact lv_if_lt hx hb hd ht (fun _ => k0) (fun q => absurd hb1 q)
        · exact lv_if_ge hx hb hd ht (fun _ => k0) (fun q => absurd hb1 q)
        · exact lv_if_gt hx hb hd ht (fun _ => k0) (fun q => absurd hb1 q)
        · exact lv_if_le hx hb hd ht (fun _ => k0) (fun q => absurd hb1 q)
      · obtain ⟨hb1, rfl⟩ := hb1
        cases op <;> simp only [zz_if, decide_eq_false_iff_not, Bool.not_eq_false', decide_eq_true_eq] at hb1
        · exact lv_if_eq hx hb hd ht (fun q => absurd q hb1) (fun _ => k0)
        · exact lv_if_ne hx hb hd ht (fun q => absurd hb1 q) (fun _ => k0)
        · exact lv_if_lt hx hb hd ht (fun q => absurd q hb1) (fun _ => k0)
        · exact lv_if_ge hx hb hd ht (fun q => absurd q hb1) (fun _ => k0)
        · exact lv_if_gt hx hb hd ht (fun q => absurd q hb1) (fun _ => k0)
        · exact lv_if_le hx hb hd ht (fun q => absurd q hb1) (fun _ => k0)
    · cases h
  | if_icmp op off =>
    cases lenO _ hlen
    simp only [zz_da] at h
    split at h
    · rename_i y x r
      obtain ⟨h1, rfl, rfl⟩ := zz_go_ok h
      have k0 := kk hnL ls hR hl
      obtain ⟨t, ht, hb1 | hb1⟩ := zz_br_ok h1
      · obtain ⟨hb1, rfl⟩ := hb1
        cases op <;> simp only [zz_ic, decide_eq_true_eq, Bool.not_eq_true', decide_eq_false_iff_not] at hb1
        · exact lv_icmp_eq hx hb hd ht (fun _ => k0) (fun q => absurd hb1 q)
        · exact lv_icmp_ne hx hb hd ht (fun _ => k0) (fun q => absurd q hb1)
        · exact lv_icmp_lt hx hb hd ht (fun _ => k0) (fun q => absurd hb1 q)
        · exact lv_icmp_ge hx hb hd ht (fun _ => k0) (fun q => absurd hb1 q)
        · exact lv_icmp_gt hx hb hd ht (fun _ => k0) (fun q => absurd hb1 q)
        · exact lv_icmp_le hx hb hd ht (fun _ => k0) (fun q => absurd hb1 q)
      · obtain ⟨hb1, rfl⟩ := hb1
        cases op <;> simp only [zz_ic, decide_eq_false_iff_not, Bool.not_eq_false', decide_eq_true_eq] at hb1
        · exact lv_icmp_eq hx hb hd ht (fun q => absurd q hb1) (fun _ => k0)
        · exact lv_icmp_ne hx hb hd ht (fun q => absurd hb1 q) (fun _ => k0)
        · exact lv_icmp_lt hx hb hd ht (fun q => absurd q hb1) (fun _ => k0)
        · exact lv_icmp_ge hx hb hd ht (fun q => absurd q hb1) (fun _ => k0)
        · exact lv_icmp_gt hx hb hd ht (fun q => absurd q hb1) (fun _ => k0)
        · exact lv_icmp_le hx hb hd ht (fun q => absurd q hb1) (fun _ => k0)
    · cases h
  | tableswitch dflt lo hi offs =>
    simp only [zz_da] at h
    split at h
    · rename_i x r
      split at h
      · rename_i hc
        obtain ⟨h1, rfl, rfl⟩ := zz_go_ok h
        exact lv_tableOut hx hb hd hc (zz_tg_eq h1) (kk hnL ls hR hl)
      · rename_i hc
        split at h
        · rename_i off ho
          obtain ⟨h1, rfl, rfl⟩ := zz_go_ok h
          exact lv_tableIn hx hb hd (fun q => hc (Or.inl q)) (fun q => hc (Or.inr q)) ho (zz_tg_eq h1) (kk hnL ls hR hl)
        · cases h
    · cases h
  | lookupswitch dflt ps =>
    simp only [zz_da] at h
    split at h
    · rename_i x r
      split at h
      · rename_i hc
        obtain ⟨h1, rfl, rfl⟩ := zz_go_ok h
        exact lv_lookup hx hb hd hc rfl (zz_tg_eq h1) (kk hnL ls hR hl)
      · cases h
    · cases h
  | _ => exact absurd (show (none : zz_O) = some _ from h) (by simp)
end ZZ1

