/-! days on, in mind: the class reckons it, the reference lets the days go by -/
section MD
variable {h h' : fH} {g g' : gV} {p o e s t j w q a b c d i v x y n : Int} {m k : Nat} {P : Int → Prop}
-- the reference
end MD
