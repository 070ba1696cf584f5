/-! events' days as they are tried in mind -/
section ON
variable {h h' : fH} {g : gV} {f f' : Int → Int} {e o z i j : Int}
theorem gu_self : gu g i (g i) = g := by
  funext j
  unfold gu
  split
  · next q => rw [q]
  · rfl
end ON
