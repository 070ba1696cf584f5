/-! the library's count of bits -/
noncomputable def bcF (a : Int) : Int := (fun z3 => (fun z7 => (fun z10 => (fun z12 => xand (wr (z12 + xushr z12 16)) 63) (wr (z10 + xushr z10 8))) (xand (wr (z7 + xushr z7 4)) 252645135)) (wr (xand z3 858993459 + xand (xushr z3 2) 858993459))) (wr (a - xand (xushr a 1) 1431655765))
set_option maxRecDepth 100000 in
theorem bits_kk : (List.range 128).all (fun a => decide (bcF (a : Int) = popc (a : Int))) = true := by decide +kernel
section BI
variable {h h' : fH} {a v : Int} {P : Int → Prop} {g : gV}
theorem bits_k (a0 : 0 ≤ a) (a1 : a ≤ 127) : bcF a = popc a := by
  obtain ⟨n, rfl⟩ := Int.eq_ofNat_of_zero_le a0
  have h := List.all_eq_true.mp bits_kk n (List.mem_range.mpr (by omega))
  exact of_decide_eq_true h
theorem sc_bits (hs : fS 120 [a] h v h') (a0 : 0 ≤ a) (a1 : a ≤ 127) : h' = h ∧ v = popc a := by
  refine ⟨sm_bits hs, ?_⟩
  refine vj_bitCount hs (fun v _ => v = popc a) ?_
  intro z1 e1 z2 e2 z3 e3 z4 e4 z5 e5 z6 e6 z7 e7 z8 e8 z9 e9 z10 e10 z11 e11 z12 e12 z13 e13 z14 e14 z15 e15
  subst e1 e2 e3 e4 e5 e6 e7 e8 e9 e10 e11 e12 e13 e14 e15
  exact bits_k a0 a1
end BI
