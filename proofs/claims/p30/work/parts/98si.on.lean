/-! events' days as they are tried in mind -/
section ON
variable {h h' : fH} {g : gV} {f f' : Int → Int} {e o z i j : Int}
end ON
