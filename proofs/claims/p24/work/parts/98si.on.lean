/-! events' days as they are tried in mind -/
noncomputable def cN (g : gV) (k : Nat) : Int := ctF (fun p => dayN k g (7 + 5 * p) ≠ 0) (g 0).toNat
section ON
variable {h h' : fH} {g : gV} {f f' : Int → Int} {e o z i j : Int}
theorem gu_gu {x y : Int} : gu (gu g i x) i y = gu g i y := by
  funext j
  unfold gu
  split <;> rfl
theorem gu_self : gu g i (g i) = g := by
  funext j
  unfold gu
  split
  · next q => rw [q]
  · rfl
theorem BG_on (hB : BG g) (e0 : 0 ≤ e) : BG (gu g (74 + 2 * e) z) := by
  unfold BG at *
  rw [gu_n (by omega), gu_n (by omega)]
  exact hB
theorem WF_on (W : WF g) (e0 : 0 ≤ e) (he : e < 5) (o0 : 0 ≤ o) (o1 : o ≤ 8) : WF (gu g (74 + 2 * e) o) := by
  have hB := W.1
  refine WF_of W (fun i hi => gu_n (by omega)) (fun p p0 p1 => ?_) (fun p e' p0 p1 a b => ?_) (fun e' a b => ?_)
  · have := W.per p0 p1
    rw [gu_n (by omega)]
    omega
  · rw [gu_n (by omega)]
    exact W.bel p0 p1 a b
  · have we := W.evt a b
    rw [gu_n (show 73 + 2 * e' ≠ 74 + 2 * e by omega)]
    by_cases q : e' = e
    · rw [q, gu_e rfl]
      rw [q] at we
      omega
    · rw [gu_n (by omega)]
      exact we
end ON
