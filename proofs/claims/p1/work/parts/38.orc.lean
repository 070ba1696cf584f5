/-! two of the model's methods by their contracts: goDays when nobody is there, again when what is kept is new -/
noncomputable def zs_gi : zs_W := [[some (.inr (.inr (12, [.inl (.ofNat 0), .inr (.inr (.inl (some (.ref 272)))), .inr (.inr (.inl (some (.ref 273)))), .inr (.inr (.inl (some (.ref 274)))), .inr (.inr (.inl (some (.ref 275)))), .inr (.inr (.inl (some (.ref 276)))), .inr (.inr (.inl (some (.ref 277)))), .inr (.inr (.inl (some (.ref 278)))), .inr (.inr (.inl (some (.ref 279)))), .inl (.ofNat 0), .inr (.inr (.inl (some (.ref 280)))), .inr (.inr (.inl (some (.ref 281)))), .inr (.inr (.inl (some (.ref 282)))), .inr (.inr (.inl (some (.ref 283)))), .inr (.inr (.inl (some (.ref 284)))), .inr (.inr (.inl none)), .inr (.inr (.inl none)), .inr (.inr (.inl (some (.ref 285)))), .inr (.inr (.inl (some (.ref 286)))), .inr (.inr (.inl none)), .inr (.inr (.inl none)), .inr (.inr (.inl none)), .inr (.inr (.inl none)), .inr (.inr (.inl (some (.ref 287)))), .inr (.inr (.inl (some (.ref 288)))), .inr (.inr (.inl (some (.ref 289)))), .inr (.inr (.inl (some (.ref 290)))), .inr (.inr (.inl (some (.ref 291)))), .inr (.inr (.inl none)), .inr (.inr (.inl none)), .inr (.inr (.inl none)), .inr (.inr (.inl (some (.ref 290)))), .inr (.inr (.inl (some (.ref 292)))), .inr (.inr (.inl (some (.ref 293)))), .inr (.inr (.inl none)), .inr (.inr (.inl (some (.ref 294)))), .inr (.inr (.inl (some (.ref 295)))), .inr (.inr (.inl (some (.ref 296)))), .inr (.inr (.inl none)), .inr (.inr (.inl (some (.ref 297)))), .inr (.inr (.inl none))])))], [], [], [], [], [], [], [], [], [], [], [], [], [], [], [], [], [], [], []]
noncomputable def zs_gx : List Nat := [271]
noncomputable def zs_ai : zs_W := [[some (.inr (.inr (12, [.inr (.inr (.inl none)), .inr (.inr (.inl (some (.ref 272)))), .inr (.inr (.inl (some (.ref 273)))), .inr (.inr (.inl (some (.ref 274)))), .inr (.inr (.inl (some (.ref 275)))), .inr (.inr (.inl (some (.ref 276)))), .inr (.inr (.inl (some (.ref 277)))), .inr (.inr (.inl (some (.ref 278)))), .inr (.inr (.inl (some (.ref 279)))), .inr (.inr (.inl none)), .inr (.inr (.inl (some (.ref 280)))), .inr (.inr (.inl (some (.ref 281)))), .inr (.inr (.inl (some (.ref 282)))), .inr (.inr (.inl (some (.ref 283)))), .inr (.inr (.inl (some (.ref 284)))), .inr (.inr (.inl none)), .inr (.inr (.inl none)), .inr (.inr (.inl (some (.ref 285)))), .inr (.inr (.inl (some (.ref 286)))), .inr (.inr (.inl none)), .inr (.inr (.inl none)), .inr (.inr (.inl none)), .inr (.inr (.inl none)), .inr (.inr (.inl (some (.ref 287)))), .inr (.inr (.inl (some (.ref 288)))), .inr (.inr (.inl (some (.ref 289)))), .inr (.inr (.inl (some (.ref 290)))), .inr (.inr (.inl (some (.ref 291)))), .inr (.inr (.inl none)), .inr (.inr (.inl none)), .inr (.inr (.inl none)), .inr (.inr (.inl (some (.ref 290)))), .inr (.inr (.inl (some (.ref 292)))), .inr (.inr (.inl (some (.ref 293)))), .inr (.inr (.inl none)), .inr (.inr (.inl (some (.ref 294)))), .inr (.inr (.inl (some (.ref 295)))), .inr (.inr (.inl (some (.ref 296)))), .inr (.inr (.inl none)), .inr (.inr (.inl (some (.ref 297)))), .inr (.inr (.inl none))]))), some (.inl (zs_rep 7 (.inr (.inr (.inl none))))), some (.inl (zs_rep 7 (.inr (.inr (.inl none))))), some (.inl (zs_rep 7 (.inr (.inr (.inl none))))), some (.inl (zs_rep 7 (.inr (.inr (.inl none))))), some (.inl (zs_rep 7 (.inr (.inr (.inl none))))), some (.inl (zs_rep 35 (.inr (.inr (.inl none))))), some (.inl (zs_rep 5 (.inr (.inr (.inl none))))), some (.inl (zs_rep 5 (.inr (.inr (.inl none))))), some (.inl (zs_rep 6 (.inr (.inr (.inl none))))), some (.inl (zs_rep 6 (.inr (.inr (.inl none))))), some (.inl (zs_rep 6 (.inr (.inr (.inl none))))), some (.inl (zs_rep 6 (.inr (.inr (.inl none))))), some (.inl (zs_rep 6 (.inr (.inr (.inl none)))))], [none, none, none, some (.inl [.inl (.ofNat 0), .inl (.ofNat 0), .inl (.ofNat 0), .inl (.ofNat 0), .inl (.ofNat 0), .inl (.ofNat 0), .inl (.ofNat 0), .inl (.ofNat 0), .inl (.ofNat 0), .inl (.ofNat 0), .inl (.ofNat 0), .inl (.ofNat 0), .inl (.ofNat 0), .inl (.ofNat 0), .inl (.ofNat 0), .inl (.ofNat 0), .inl (.ofNat 0), .inl (.ofNat 0), .inl (.ofNat 0), .inl (.ofNat 0), .inl (.ofNat 0), .inl (.ofNat 0), .inl (.ofNat 0), .inl (.ofNat 0), .inl (.ofNat 0), .inl (.ofNat 0), .inl (.ofNat 0), .inl (.ofNat 0), .inl (.ofNat 0), .inl (.ofNat 0), .inl (.ofNat 0), .inl (.ofNat 0), .inl (.ofNat 0), .inl (.ofNat 0), .inl (.ofNat 0), .inl (.ofNat 0), .inl (.ofNat 0), .inl (.ofNat 0), .inl (.ofNat 0), .inl (.ofNat 0), .inl (.ofNat 0), .inl (.ofNat 0), .inl (.ofNat 0), .inl (.ofNat 0), .inl (.ofNat 0), .inl (.ofNat 0), .inl (.ofNat 0), .inl (.ofNat 0), .inl (.ofNat 0), .inl (.ofNat 0), .inl (.ofNat 0), .inl (.ofNat 0), .inl (.ofNat 0), .inl (.ofNat 0), .inl (.ofNat 0), .inl (.ofNat 0), .inl (.ofNat 0), .inl (.ofNat 0), .inl (.ofNat 0), .inl (.ofNat 0), .inl (.ofNat 0), .inl (.ofNat 0), .inl (.ofNat 0), .inl (.ofNat 0), .inl (.ofNat 0), .inl (.ofNat 0), .inl (.ofNat 0), .inl (.ofNat 0), .inl (.ofNat 0), .inl (.ofNat 0), .inl (.ofNat 0), .inl (.ofNat 0), .inl (.ofNat 0), .inl (.ofNat 2), .inl (.ofNat 0), .inl (.ofNat 3), .inl (.ofNat 0), .inl (.ofNat 4), .inl (.ofNat 0), .inl (.ofNat 5), .inl (.ofNat 0), .inl (.ofNat 6), .inl (.ofNat 0), .inl (.ofNat 0), .inl (.ofNat 0), .inl (.ofNat 0), .inl (.ofNat 0), .inl (.ofNat 0), .inl (.ofNat 0), .inl (.ofNat 0), .inl (.ofNat 0), .inl (.ofNat 0), .inl (.ofNat 0), .inl (.ofNat 0), .inl (.ofNat 0), .inl (.ofNat 0), .inl (.ofNat 0), .inl (.ofNat 0), .inl (.ofNat 0), .inl (.ofNat 0), .inl (.ofNat 0), .inl (.ofNat 0), .inl (.ofNat 0), .inl (.ofNat 0), .inl (.ofNat 0), .inl (.ofNat 0), .inl (.ofNat 0), .inl (.ofNat 0), .inl (.ofNat 0), .inl (.ofNat 0), .inl (.ofNat 0), .inl (.ofNat 0), .inl (.ofNat 0)])], [], [], [], [], [], [], [], [], [], [], [], [], [], [], [], [], [], []]
noncomputable def zs_ao : zs_W := [[some (.inr (.inr (12, [.inl (.ofNat 0), .inr (.inr (.inl (some (.ref 272)))), .inr (.inr (.inl (some (.ref 273)))), .inr (.inr (.inl (some (.ref 274)))), .inr (.inr (.inl (some (.ref 275)))), .inr (.inr (.inl (some (.ref 276)))), .inr (.inr (.inl (some (.ref 277)))), .inr (.inr (.inl (some (.ref 278)))), .inr (.inr (.inl (some (.ref 279)))), .inl (.ofNat 0), .inr (.inr (.inl (some (.ref 280)))), .inr (.inr (.inl (some (.ref 281)))), .inr (.inr (.inl (some (.ref 282)))), .inr (.inr (.inl (some (.ref 283)))), .inr (.inr (.inl (some (.ref 284)))), .inl (.ofNat 0), .inr (.inr (.inl none)), .inr (.inr (.inl (some (.ref 285)))), .inr (.inr (.inl (some (.ref 286)))), .inr (.inr (.inl none)), .inr (.inr (.inl none)), .inr (.inr (.inl none)), .inr (.inr (.inl none)), .inr (.inr (.inl (some (.ref 287)))), .inr (.inr (.inl (some (.ref 288)))), .inr (.inr (.inl (some (.ref 289)))), .inr (.inr (.inl (some (.ref 290)))), .inr (.inr (.inl (some (.ref 291)))), .inr (.inr (.inl none)), .inr (.inr (.inl none)), .inr (.inr (.inl none)), .inr (.inr (.inl (some (.ref 290)))), .inr (.inr (.inl (some (.ref 292)))), .inr (.inr (.inl (some (.ref 293)))), .inr (.inr (.inl none)), .inr (.inr (.inl (some (.ref 294)))), .inr (.inr (.inl (some (.ref 295)))), .inr (.inr (.inl (some (.ref 296)))), .inr (.inr (.inl none)), .inr (.inr (.inl (some (.ref 297)))), .inr (.inr (.inl none))]))), some (.inl (zs_rep 7 (.inl (.ofNat 0)))), some (.inl (zs_rep 7 (.inl (.ofNat 0)))), some (.inl (zs_rep 7 (.inl (.ofNat 0)))), some (.inl (zs_rep 7 (.inl (.ofNat 0)))), some (.inl (zs_rep 7 (.inl (.ofNat 0)))), some (.inl (zs_rep 35 (.inl (.ofNat 0)))), some (.inl [.inl (.ofNat 2), .inl (.ofNat 3), .inl (.ofNat 4), .inl (.ofNat 5), .inl (.ofNat 6)]), some (.inl (zs_rep 5 (.inl (.ofNat 0)))), some (.inl (zs_rep 6 (.inl (.ofNat 0)))), some (.inl (zs_rep 6 (.inl (.ofNat 0)))), some (.inl (zs_rep 6 (.inl (.ofNat 0)))), some (.inl (zs_rep 6 (.inl (.ofNat 0)))), some (.inl (zs_rep 6 (.inl (.ofNat 0))))], [none, none, none, some (.inl [.inl (.ofNat 0), .inl (.ofNat 0), .inl (.ofNat 0), .inl (.ofNat 0), .inl (.ofNat 0), .inl (.ofNat 0), .inl (.ofNat 0), .inl (.ofNat 0), .inl (.ofNat 0), .inl (.ofNat 0), .inl (.ofNat 0), .inl (.ofNat 0), .inl (.ofNat 0), .inl (.ofNat 0), .inl (.ofNat 0), .inl (.ofNat 0), .inl (.ofNat 0), .inl (.ofNat 0), .inl (.ofNat 0), .inl (.ofNat 0), .inl (.ofNat 0), .inl (.ofNat 0), .inl (.ofNat 0), .inl (.ofNat 0), .inl (.ofNat 0), .inl (.ofNat 0), .inl (.ofNat 0), .inl (.ofNat 0), .inl (.ofNat 0), .inl (.ofNat 0), .inl (.ofNat 0), .inl (.ofNat 0), .inl (.ofNat 0), .inl (.ofNat 0), .inl (.ofNat 0), .inl (.ofNat 0), .inl (.ofNat 0), .inl (.ofNat 0), .inl (.ofNat 0), .inl (.ofNat 0), .inl (.ofNat 0), .inl (.ofNat 0), .inl (.ofNat 0), .inl (.ofNat 0), .inl (.ofNat 0), .inl (.ofNat 0), .inl (.ofNat 0), .inl (.ofNat 0), .inl (.ofNat 0), .inl (.ofNat 0), .inl (.ofNat 0), .inl (.ofNat 0), .inl (.ofNat 0), .inl (.ofNat 0), .inl (.ofNat 0), .inl (.ofNat 0), .inl (.ofNat 0), .inl (.ofNat 0), .inl (.ofNat 0), .inl (.ofNat 0), .inl (.ofNat 0), .inl (.ofNat 0), .inl (.ofNat 0), .inl (.ofNat 0), .inl (.ofNat 0), .inl (.ofNat 0), .inl (.ofNat 0), .inl (.ofNat 0), .inl (.ofNat 0), .inl (.ofNat 0), .inl (.ofNat 0), .inl (.ofNat 0), .inl (.ofNat 0), .inl (.ofNat 2), .inl (.ofNat 0), .inl (.ofNat 3), .inl (.ofNat 0), .inl (.ofNat 4), .inl (.ofNat 0), .inl (.ofNat 5), .inl (.ofNat 0), .inl (.ofNat 6), .inl (.ofNat 0), .inl (.ofNat 0), .inl (.ofNat 0), .inl (.ofNat 0), .inl (.ofNat 0), .inl (.ofNat 0), .inl (.ofNat 0), .inl (.ofNat 0), .inl (.ofNat 0), .inl (.ofNat 0), .inl (.ofNat 0), .inl (.ofNat 0), .inl (.ofNat 0), .inl (.ofNat 0), .inl (.ofNat 0), .inl (.ofNat 0), .inl (.ofNat 0), .inl (.ofNat 0), .inl (.ofNat 0), .inl (.ofNat 0), .inl (.ofNat 0), .inl (.ofNat 0), .inl (.ofNat 0), .inl (.ofNat 0), .inl (.ofNat 0), .inl (.ofNat 0), .inl (.ofNat 0), .inl (.ofNat 0), .inl (.ofNat 0), .inl (.ofNat 0), .inl (.ofNat 0)])], [], [], [], [], [], [], [], [], [], [], [], [], [], [], [], [], [], []]
noncomputable def zs_ax : List Nat := [271, 272, 273, 274, 275, 276, 277, 278, 279, 280, 281, 282, 283, 284, 290]
noncomputable def zs_og : zs_O := fun j args w rs => match Nat.beq j 172 with
  | true => match args with
    | [a, v] => match zs_leV a (.inr (.inr (.inl (some (.ref 271))))) with
      | true => match zs_iv rs v with
        | some p => match zs_le (.ofNat 0) p.1 with
          | true => match zs_le p.2 (.ofNat 60) with
            | true => zs_tpl zs_gx zs_gi zs_gi w
            | false => none
          | false => none
        | none => none
      | false => none
    | _ => none
  | false => match Nat.beq j 180 with
    | true => match args with
      | [a] => match zs_leV a (.inr (.inr (.inl (some (.ref 271))))) with
        | true => zs_tpl zs_ax zs_ai zs_ao w
        | false => none
      | _ => none
    | false => none
set_option maxRecDepth 1000000 in
theorem zs_g1 : zs_ev (fun _ _ _ _ => none) 3000 zm_172 0 (zs_ent [.inr (.inr (.inl (some (.ref 271)))), .inr (.inl (0, .ofNat 0))] zm_172.2.2.1) [] zs_gi [(.ofNat 0, .ofNat 60)] (zs_kt zs_gx zs_gi) = true := by decide +kernel
set_option maxRecDepth 1000000 in
theorem zs_g2 : zs_ev (fun _ _ _ _ => none) 5000 zm_180 0 (zs_ent [.inr (.inr (.inl (some (.ref 271))))] zm_180.2.2.1) [] zs_ai [] (zs_kt zs_ax zs_ao) = true := by decide +kernel
set_option maxRecDepth 1000000 in
theorem zs_g3 : zs_tx zs_gx zs_gi = true := by decide +kernel
set_option maxRecDepth 1000000 in
theorem zs_g4 : zs_tx zs_ax zs_ai = true := by decide +kernel
theorem zs_all_ex {ix : List Nat} {w : zs_W} (h : ix.all (fun i => (zs_get w i).isSome) = true) : ∀ i ∈ ix, ∃ x, zs_get w i = some x := fun i hi => Option.isSome_iff_exists.mp (List.all_eq_true.mp h i hi)
set_option maxRecDepth 1000000 in
theorem zs_g5 : zs_gx.all (fun i => (zs_get zs_gi i).isSome) = true := by decide +kernel
set_option maxRecDepth 1000000 in
theorem zs_g6 : zs_ax.all (fun i => (zs_get zs_ao i).isSome) = true := by decide +kernel
theorem zs_og_ok : zs_HO zs_og 298 := by
  intro j mj args w rs v w' h hj ρ hr cargs cs hS hW
  unfold zs_og at h
  split at h
  · rename_i hb
    have hb := Nat.eq_of_beq_eq_true hb
    subst hb
    split at h
    · obtain ⟨u1, t1, rfl, g1, hS1⟩ := zs_rS_cons hS
      obtain ⟨u2, t2, rfl, g2, hS2⟩ := zs_rS_cons hS1
      obtain rfl := zs_rS_nil hS2
      split at h
      · rename_i hv
        have g1' := zs_leV_ok (fun _ => 0) hv g1
        split at h
        · rename_i p hp
          obtain ⟨z, rfl, z1, z2⟩ := zs_iv_of (a := p.1) (b := p.2) hp hr g2
          split at h
          · rename_i e1
            split at h
            · rename_i e2
              rw [zs_le_iff] at e1 e2
              cases hj
              exact zs_tpl_ok (mi := zm_172) (j := 172) (hU := zs_all_ex zs_g5) rfl zs_g1 (by decide +kernel) zs_g3 (ρ0 := fun _ => z) (fun i a b hi => by
                match i, hi with
                | 0, hi =>
                  cases hi
                  exact ⟨Int.le_trans e1 z1, Int.le_trans z2 e2⟩
                | i + 1, hi => simp at hi) (zs_rS_mk (zs_leV_ok _ hv g1) (zs_rS_mk (show zs_g _ (.inr (.inl (0, .ofNat 0))) _ from by
                show Value.int _ = Value.int (Int32.ofInt (z + 0))
                rw [Int.add_zero]) trivial)) h hW
            · cases h
          · cases h
        · cases h
      · cases h
    · cases h
  · split at h
    · rename_i hb
      have hb := Nat.eq_of_beq_eq_true hb
      subst hb
      split at h
      · obtain ⟨u1, t1, rfl, g1, hS1⟩ := zs_rS_cons hS
        obtain rfl := zs_rS_nil hS1
        split at h
        · rename_i hv
          cases hj
          exact zs_tpl_ok (mi := zm_180) (j := 180) (hU := zs_all_ex zs_g6) rfl zs_g2 (by decide +kernel) zs_g4 (ρ0 := fun _ => 0) (fun i a b hi => by simp at hi) (zs_rS_mk (zs_leV_ok _ hv g1) trivial) h hW
        · cases h
      · cases h
    · cases h
