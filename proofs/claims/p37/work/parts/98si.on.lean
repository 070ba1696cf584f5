/-! events' days as they are tried in mind -/
noncomputable def cN (g : gV) (k : Nat) : Int := ctF (fun p => dayN k g (7 + 5 * p) ≠ 0) (g 0).toNat
section ON
variable {h h' : fH} {g : gV} {f f' : Int → Int} {e o z i j : Int}
end ON
