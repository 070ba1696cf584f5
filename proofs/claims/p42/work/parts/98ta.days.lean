/-! answers: days (made by a program) -/
section AA
variable {h h' : fH} {v x y z w : Int} {G : gS}
end AA
