/-! the library's count of bits -/
section BI
variable {h h' : fH} {a v : Int} {P : Int → Prop} {g : gV}
end BI
