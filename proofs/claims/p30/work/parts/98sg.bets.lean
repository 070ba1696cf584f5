/-! bets, wooers -/
noncomputable def okB (g : gV) (a c d e s : Int) : Prop := cbF g a c e s ∧ ¬ (cmF g e (g 1 + d) ↔ s = 1)
noncomputable def rgB (d e s : Int) : Prop := 1 ≤ d ∧ d ≤ 9 ∧ 0 ≤ e ∧ e < 5 ∧ 0 ≤ s ∧ s ≤ 1
noncomputable def betE (g : gV) (a c : Int) : Prop := ∃ d e s, rgB d e s ∧ okB g a c d e s
noncomputable def betR (g : gV) (a c v : Int) : Prop := (v = -9 ∧ ¬ betE g a c) ∨ (∃ d e s, rgB d e s ∧ okB g a c d e s ∧ v = 100 * e + 10 * s + d ∧ ∀ d' e' s', rgB d' e' s' → (d' < d ∨ (d' = d ∧ e' < e)) → ¬ okB g a c d' e' s')
section BE
variable {h h' : fH} {g g' : gV} {p o e s t j w q a b c d i v x y n : Int} {m k : Nat}
theorem betR.ne (x : betR g a c v) : (v ≠ -9 ↔ betE g a c) ∧ (0 ≤ v ↔ betE g a c) := by
  rcases x with ⟨x1, x2⟩ | ⟨d, e, s, x1, x2, x3, x4⟩
  · exact ⟨⟨fun q => absurd x1 q, fun q => absurd q x2⟩, ⟨fun q => by omega, fun q => absurd q x2⟩⟩
  · have hb : betE g a c := ⟨d, e, s, x1, x2⟩
    unfold rgB at x1
    exact ⟨⟨fun _ => hb, fun _ => by omega⟩, ⟨fun _ => hb, fun _ => by omega⟩⟩
theorem sr_isLost (hs : fS 210 [271, e, s, d] h v h') (R : RM h g) (e0 : 0 ≤ e) (e1 : e < 5) : h' = h ∧ bR v (¬ (cmF g e d ↔ s = 1)) := by
  refine vr_isLost hs (fun v h' => h' = h ∧ bR v (¬ (cmF g e d ↔ s = 1))) ?_
  intro z4 e4 z5 e5 z6 e6 z7 e7
  have e4 := e4.trans (R.on e0 e1)
  have e6 := e6.trans (R.ev e0 e1)
  rw [e5, e4, e6] at e7
  refine ⟨fun q1 => ?_, fun q1 => ?_⟩
  · have nc : ¬ cmF g e d := fun q => q1 (e7.trans q)
    exact ⟨fun q2 => ⟨rfl, Or.inr ⟨rfl, fun q => q ⟨fun q3 => absurd q3 nc, fun q3 => absurd q3 q2⟩⟩⟩, fun q2 => ⟨rfl, Or.inl ⟨rfl, fun q => nc (q.mpr q2)⟩⟩⟩
  · have nc : cmF g e d := e7.symm.trans q1
    exact ⟨fun q2 => ⟨rfl, Or.inl ⟨rfl, fun q => q2 (q.mp nc)⟩⟩, fun q2 => ⟨rfl, Or.inr ⟨rfl, fun q => q ⟨fun _ => q2, fun _ => nc⟩⟩⟩⟩
end BE
