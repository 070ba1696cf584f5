section
/-! the functional view: what never changes (made by a program) -/
noncomputable def f_ct : List (Nat × Nat × Nat) := [(3, 0, 0), (2, 0, 10), (0, 0, 12), (0, 0, 7), (1, 1, 6), (2, 1, 0), (2, 2, 0), (2, 3, 0), (2, 4, 0), (2, 5, 0), (2, 6, 0), (2, 7, 16), (0, 0, 7), (0, 0, 7), (0, 0, 7), (0, 0, 7), (0, 0, 7), (0, 0, 7), (0, 0, 7), (0, 0, 7),
  (1, 2, 7), (0, 0, 5), (0, 0, 5), (0, 0, 5), (0, 0, 5), (0, 0, 5), (0, 0, 5), (0, 0, 5), (0, 0, 5), (0, 0, 5), (1, 3, 3), (2, 8, 5), (2, 8, 5), (2, 8, 5), (2, 7, 16), (0, 0, 7), (0, 0, 7), (0, 0, 7), (0, 0, 7), (0, 0, 7),
  (0, 0, 7), (0, 0, 7), (0, 0, 7), (1, 2, 7), (0, 0, 5), (0, 0, 5), (0, 0, 5), (0, 0, 5), (0, 0, 5), (0, 0, 5), (0, 0, 5), (0, 0, 5), (0, 0, 5), (1, 3, 3), (2, 8, 5), (2, 8, 5), (2, 8, 5), (2, 7, 16), (0, 0, 7), (0, 0, 7),
  (0, 0, 7), (0, 0, 7), (0, 0, 7), (0, 0, 7), (0, 0, 7), (0, 0, 7), (1, 2, 7), (0, 0, 5), (0, 0, 5), (0, 0, 5), (0, 0, 5), (0, 0, 5), (0, 0, 5), (0, 0, 5), (0, 0, 5), (0, 0, 5), (1, 3, 3), (2, 8, 5), (2, 8, 5), (2, 8, 5),
  (2, 9, 3), (1, 4, 8), (2, 7, 16), (0, 0, 7), (0, 0, 7), (0, 0, 7), (0, 0, 7), (0, 0, 7), (0, 0, 7), (0, 0, 7), (0, 0, 7), (1, 2, 7), (0, 0, 5), (0, 0, 5), (0, 0, 5), (0, 0, 5), (0, 0, 5), (0, 0, 5), (0, 0, 5), (0, 0, 5),
  (0, 0, 5), (1, 3, 3), (2, 8, 5), (2, 8, 5), (2, 8, 5), (2, 7, 16), (0, 0, 7), (0, 0, 7), (0, 0, 7), (0, 0, 7), (0, 0, 7), (0, 0, 7), (0, 0, 7), (0, 0, 7), (1, 2, 7), (0, 0, 5), (0, 0, 5), (0, 0, 5), (0, 0, 5), (0, 0, 5),
  (0, 0, 5), (0, 0, 5), (0, 0, 5), (0, 0, 5), (1, 3, 3), (2, 8, 5), (2, 8, 5), (2, 8, 5), (2, 7, 16), (0, 0, 7), (0, 0, 7), (0, 0, 7), (0, 0, 7), (0, 0, 7), (0, 0, 7), (0, 0, 7), (0, 0, 7), (1, 2, 7), (0, 0, 5), (0, 0, 5),
  (0, 0, 5), (0, 0, 5), (0, 0, 5), (0, 0, 5), (0, 0, 5), (0, 0, 5), (0, 0, 5), (1, 3, 3), (2, 8, 5), (2, 8, 5), (2, 8, 5), (2, 7, 16), (0, 0, 7), (0, 0, 7), (0, 0, 7), (0, 0, 7), (0, 0, 7), (0, 0, 7), (0, 0, 7), (0, 0, 7),
  (1, 2, 7), (0, 0, 5), (0, 0, 5), (0, 0, 5), (0, 0, 5), (0, 0, 5), (0, 0, 5), (0, 0, 5), (0, 0, 5), (0, 0, 5), (1, 3, 3), (2, 8, 5), (2, 8, 5), (2, 8, 5), (2, 7, 16), (0, 0, 7), (0, 0, 7), (0, 0, 7), (0, 0, 7), (0, 0, 7),
  (0, 0, 7), (0, 0, 7), (0, 0, 7), (1, 2, 7), (0, 0, 5), (0, 0, 5), (0, 0, 5), (0, 0, 5), (0, 0, 5), (0, 0, 5), (0, 0, 5), (0, 0, 5), (0, 0, 5), (1, 3, 3), (2, 8, 5), (2, 8, 5), (2, 8, 5), (2, 7, 16), (0, 0, 7), (0, 0, 7),
  (0, 0, 7), (0, 0, 7), (0, 0, 7), (0, 0, 7), (0, 0, 7), (0, 0, 7), (1, 2, 7), (0, 0, 5), (0, 0, 5), (0, 0, 5), (0, 0, 5), (0, 0, 5), (0, 0, 5), (0, 0, 5), (0, 0, 5), (0, 0, 5), (1, 3, 3), (2, 8, 5), (2, 8, 5), (2, 8, 5),
  (2, 7, 16), (0, 0, 7), (0, 0, 7), (0, 0, 7), (0, 0, 7), (0, 0, 7), (0, 0, 7), (0, 0, 7), (0, 0, 7), (1, 2, 7), (0, 0, 5), (0, 0, 5), (0, 0, 5), (0, 0, 5), (0, 0, 5), (0, 0, 5), (0, 0, 5), (0, 0, 5), (0, 0, 5), (1, 3, 3),
  (2, 8, 5), (2, 8, 5), (2, 8, 5), (2, 7, 16), (0, 0, 7), (0, 0, 7), (0, 0, 7), (0, 0, 7), (0, 0, 7), (0, 0, 7), (0, 0, 7), (0, 0, 7), (1, 2, 7), (0, 0, 5), (0, 0, 5), (0, 0, 5), (0, 0, 5), (0, 0, 5), (0, 0, 5), (0, 0, 5),
  (0, 0, 5), (0, 0, 5), (1, 3, 3), (2, 8, 5), (2, 8, 5), (2, 8, 5), (2, 10, 2), (0, 0, 96), (2, 11, 3), (0, 0, 7), (0, 0, 128), (2, 12, 41), (0, 0, 7), (0, 0, 7), (0, 0, 7), (0, 0, 7), (0, 0, 7), (0, 0, 35), (0, 0, 5), (0, 0, 5),
  (0, 0, 6), (0, 0, 6), (0, 0, 6), (0, 0, 6), (0, 0, 6), (0, 0, 7), (0, 0, 96), (0, 0, 49), (0, 0, 49), (0, 0, 245), (0, 0, 113), (0, 0, 113), (0, 0, 904), (0, 0, 113), (0, 0, 1024), (0, 0, 7), (0, 0, 12), (0, 0, 8)]
-- fields: class, place, is the cell told outright, the cell or how far it lies behind the object, the tag of what is read
noncomputable def f_rl : List (Nat × Nat × Bool × Int × Nat) := [(0, 0, true, 11, 0), (0, 1, true, 34, 0), (0, 2, true, 57, 0), (0, 4, true, 80, 0), (0, 5, true, 266, 0), (0, 6, true, 268, 0), (0, 7, true, 2, 0), (0, 9, true, 3, 0), (7, 0, true, 4, 3), (7, 2, false, 1, 0),
  (7, 3, false, 2, 0), (7, 4, false, 3, 0), (7, 5, false, 4, 0), (7, 6, false, 5, 0), (7, 7, false, 6, 0), (7, 8, false, 7, 0), (7, 9, false, 8, 0), (7, 10, false, 9, 4), (7, 11, false, 17, 0), (7, 12, false, 18, 0),
  (7, 13, false, 19, 5), (9, 0, true, 81, 6), (10, 0, true, 267, 0), (11, 0, true, 269, 0), (11, 1, true, 270, 0), (12, 1, true, 272, 0), (12, 2, true, 273, 0), (12, 3, true, 274, 0), (12, 4, true, 275, 0), (12, 5, true, 276, 0),
  (12, 6, true, 277, 0), (12, 7, true, 278, 0), (12, 8, true, 279, 0), (12, 10, true, 280, 0), (12, 11, true, 281, 0), (12, 12, true, 282, 0), (12, 13, true, 283, 0), (12, 14, true, 284, 0), (12, 17, true, 285, 0), (12, 18, true, 286, 0),
  (12, 23, true, 287, 0), (12, 24, true, 288, 0), (12, 25, true, 289, 0), (12, 26, true, 290, 0), (12, 27, true, 291, 0), (12, 32, true, 292, 0), (12, 33, true, 293, 0), (12, 35, true, 294, 0), (12, 36, true, 295, 0), (12, 37, true, 296, 0),
  (12, 39, true, 297, 0)]
-- arrays of references that stay: class, how far apart
noncomputable def f_as : List (Nat × Int) := [(1, 1), (2, 1), (4, 23)]
noncomputable def f_fx : List (Nat × Nat × Nat) := [(1, 0, 11), (1, 1, 34), (1, 2, 57), (1, 4, 80), (1, 5, 266), (1, 6, 268), (1, 7, 2), (1, 9, 3), (11, 0, 4), (34, 0, 4), (57, 0, 4), (82, 0, 4), (105, 0, 4), (128, 0, 4), (151, 0, 4), (174, 0, 4), (197, 0, 4), (220, 0, 4), (243, 0, 4), (11, 2, 12),
  (34, 2, 35), (57, 2, 58), (82, 2, 83), (105, 2, 106), (128, 2, 129), (151, 2, 152), (174, 2, 175), (197, 2, 198), (220, 2, 221), (243, 2, 244), (11, 3, 13), (34, 3, 36), (57, 3, 59), (82, 3, 84), (105, 3, 107), (128, 3, 130), (151, 3, 153), (174, 3, 176), (197, 3, 199), (220, 3, 222),
  (243, 3, 245), (11, 4, 14), (34, 4, 37), (57, 4, 60), (82, 4, 85), (105, 4, 108), (128, 4, 131), (151, 4, 154), (174, 4, 177), (197, 4, 200), (220, 4, 223), (243, 4, 246), (11, 5, 15), (34, 5, 38), (57, 5, 61), (82, 5, 86), (105, 5, 109), (128, 5, 132), (151, 5, 155), (174, 5, 178),
  (197, 5, 201), (220, 5, 224), (243, 5, 247), (11, 6, 16), (34, 6, 39), (57, 6, 62), (82, 6, 87), (105, 6, 110), (128, 6, 133), (151, 6, 156), (174, 6, 179), (197, 6, 202), (220, 6, 225), (243, 6, 248), (11, 7, 17), (34, 7, 40), (57, 7, 63), (82, 7, 88), (105, 7, 111), (128, 7, 134),
  (151, 7, 157), (174, 7, 180), (197, 7, 203), (220, 7, 226), (243, 7, 249), (11, 8, 18), (34, 8, 41), (57, 8, 64), (82, 8, 89), (105, 8, 112), (128, 8, 135), (151, 8, 158), (174, 8, 181), (197, 8, 204), (220, 8, 227), (243, 8, 250), (11, 9, 19), (34, 9, 42), (57, 9, 65), (82, 9, 90),
  (105, 9, 113), (128, 9, 136), (151, 9, 159), (174, 9, 182), (197, 9, 205), (220, 9, 228), (243, 9, 251), (11, 10, 20), (34, 10, 43), (57, 10, 66), (82, 10, 91), (105, 10, 114), (128, 10, 137), (151, 10, 160), (174, 10, 183), (197, 10, 206), (220, 10, 229), (243, 10, 252), (11, 11, 28), (34, 11, 51),
  (57, 11, 74), (82, 11, 99), (105, 11, 122), (128, 11, 145), (151, 11, 168), (174, 11, 191), (197, 11, 214), (220, 11, 237), (243, 11, 260), (11, 12, 29), (34, 12, 52), (57, 12, 75), (82, 12, 100), (105, 12, 123), (128, 12, 146), (151, 12, 169), (174, 12, 192), (197, 12, 215), (220, 12, 238), (243, 12, 261),
  (11, 13, 30), (34, 13, 53), (57, 13, 76), (82, 13, 101), (105, 13, 124), (128, 13, 147), (151, 13, 170), (174, 13, 193), (197, 13, 216), (220, 13, 239), (243, 13, 262), (80, 0, 81), (266, 0, 267), (268, 0, 269), (268, 1, 270), (271, 1, 272), (271, 2, 273), (271, 3, 274), (271, 4, 275), (271, 5, 276),
  (271, 6, 277), (271, 7, 278), (271, 8, 279), (271, 10, 280), (271, 11, 281), (271, 12, 282), (271, 13, 283), (271, 14, 284), (271, 17, 285), (271, 18, 286), (271, 23, 287), (271, 24, 288), (271, 25, 289), (271, 26, 290), (271, 27, 291), (271, 32, 292), (271, 33, 293), (271, 35, 294), (271, 36, 295), (271, 37, 296),
  (271, 39, 297), (4, 0, 5), (4, 1, 6), (4, 2, 7), (4, 3, 8), (4, 4, 9), (4, 5, 10), (20, 0, 21), (20, 1, 22), (20, 2, 23), (20, 3, 24), (20, 4, 25), (20, 5, 26), (20, 6, 27), (43, 0, 44), (43, 1, 45), (43, 2, 46), (43, 3, 47), (43, 4, 48), (43, 5, 49),
  (43, 6, 50), (66, 0, 67), (66, 1, 68), (66, 2, 69), (66, 3, 70), (66, 4, 71), (66, 5, 72), (66, 6, 73), (91, 0, 92), (91, 1, 93), (91, 2, 94), (91, 3, 95), (91, 4, 96), (91, 5, 97), (91, 6, 98), (114, 0, 115), (114, 1, 116), (114, 2, 117), (114, 3, 118), (114, 4, 119),
  (114, 5, 120), (114, 6, 121), (137, 0, 138), (137, 1, 139), (137, 2, 140), (137, 3, 141), (137, 4, 142), (137, 5, 143), (137, 6, 144), (160, 0, 161), (160, 1, 162), (160, 2, 163), (160, 3, 164), (160, 4, 165), (160, 5, 166), (160, 6, 167), (183, 0, 184), (183, 1, 185), (183, 2, 186), (183, 3, 187),
  (183, 4, 188), (183, 5, 189), (183, 6, 190), (206, 0, 207), (206, 1, 208), (206, 2, 209), (206, 3, 210), (206, 4, 211), (206, 5, 212), (206, 6, 213), (229, 0, 230), (229, 1, 231), (229, 2, 232), (229, 3, 233), (229, 4, 234), (229, 5, 235), (229, 6, 236), (252, 0, 253), (252, 1, 254), (252, 2, 255),
  (252, 3, 256), (252, 4, 257), (252, 5, 258), (252, 6, 259), (81, 0, 82), (81, 1, 105), (81, 2, 128), (81, 3, 151), (81, 4, 174), (81, 5, 197), (81, 6, 220), (81, 7, 243)]
-- constructors
noncomputable def f_bad : List Nat := [0, 1, 2, 3, 4, 5, 6, 7, 8, 9, 10, 11, 149]
-- tags of the arguments of each method
noncomputable def f_tags : List (List Nat) := [[0], [0], [0], [0], [0], [0], [0], [0, 0], [0], [0, 0], [0], [0], [0, 0], [0, 0], [0], [0, 0], [0], [0], [0, 0], [0],
  [0, 0], [0, 0], [0], [0, 0], [0, 0], [0, 0], [0, 0], [0, 0, 0], [0, 0, 0], [0, 0, 0, 0], [0, 0], [0, 0], [0, 0], [0, 0], [0, 0], [0, 0], [0, 0], [0, 0], [0, 0], [0, 0],
  [0, 0], [0, 0], [0], [0], [0], [0], [0], [0, 0], [0, 0, 0], [0, 0], [0, 0, 0, 0], [0], [0, 0, 0, 0], [0, 0, 0, 0], [0, 0, 0, 0, 0, 0], [0, 0, 0], [0, 0, 0, 0, 0], [0, 0], [0, 0], [0, 0],
  [0, 0, 0, 0], [0, 0, 0, 0, 0], [0, 0, 0, 0, 0, 0], [0, 0], [0, 0], [0], [0, 0], [0, 0, 0], [0, 0, 0], [0, 0], [0, 0], [0], [0, 0, 0], [0], [0, 0, 0], [0, 0, 0], [0, 0, 0], [0, 0, 0], [0, 0], [0],
  [0, 0], [0, 0, 0], [0, 0, 0], [0, 0], [0, 0, 0], [0, 0, 0], [0, 0, 0, 0], [0, 0], [0, 0, 0, 0], [0, 0, 0, 0, 0, 0], [0, 0], [0, 0], [0], [0, 0], [0], [0], [0, 0, 0, 0], [0, 0, 0], [0, 0, 0, 0], [0, 0, 0, 0],
  [0, 0, 0, 0], [0, 0, 0, 0], [0, 0], [0, 0], [0], [0, 0, 0], [0, 0, 0], [0, 0, 0], [0, 0, 0, 0], [0, 0], [0, 0], [0, 0], [0, 0], [0, 0], [0, 0], [0], [0, 0], [0, 0, 0], [0, 0], [0, 0],
  [0], [0, 0], [0, 0], [0, 0, 0], [0, 0], [0, 0, 0, 0], [0, 0, 0, 0, 0, 0], [0, 0], [0], [0], [0, 0, 0], [0, 0], [0, 0, 0], [0, 0, 0, 0, 0], [0, 0], [0, 0, 0], [0, 0, 0], [0, 0, 0, 0], [0, 0], [0],
  [0, 0], [0], [0, 0], [0, 0], [0, 0], [0], [0], [0], [0], [0], [0, 0], [0, 0], [0], [0], [0], [0], [0], [1, 1, 1], [0], [0, 0, 0],
  [0, 0], [0, 0], [0, 0, 0], [0, 0], [0], [0, 0, 0, 0, 0, 0], [0, 0, 0, 0, 0], [0, 0], [0, 0, 0, 0], [0, 0, 0, 0, 0], [0, 0], [0, 0, 0, 0, 0, 0], [0, 0], [0, 0], [0, 0, 0], [0, 0, 0], [0, 0], [0, 0], [0, 0], [0, 0],
  [0], [0], [0], [0], [0, 0, 0], [0, 0, 0], [0, 0, 0], [0, 0, 0], [0, 0, 0], [0, 0, 0], [0, 0, 0], [0, 0, 0, 0], [0], [0, 0, 0, 0], [0, 0, 0, 0, 0, 0], [0, 0, 0], [0, 0, 0], [0, 0], [0], [0],
  [0, 0, 0, 0], [0, 0, 0, 0], [0, 0, 0, 0], [0, 0], [0, 0], [0, 0], [0, 0], [0, 0, 0], [0, 0, 0], [0, 0, 0], [0, 0, 0, 0], [0, 0, 0, 0], [0, 0], [0, 0], [0, 0], [0], [0, 0], [0, 0, 0], [0, 0, 0], [0, 0],
  [0, 0], [0, 0], [0, 0, 0], [0, 0, 0], [0], [0, 0, 0], [0, 0], [0, 0], [0, 0, 0], [0, 0, 0, 0], [0, 0, 0, 0, 0], [1, 1, 0], [1, 1], [0, 0, 0], [0, 0], [0], [0, 0], [0, 0, 0], [0], [0, 0],
  [0, 0, 0], [0, 0], [0, 0], [0], [0], [0], [0, 0, 0, 0], [0, 0], [0], [0], [0, 0, 0, 0], [0, 0], [0, 0]]
end
section
/-! THE FUNCTIONAL VIEW: a value as an int, the cells as a function of cell and place to an int; what never changes of the cells: their kinds, the references of final fields and of arrays that stay -/
noncomputable def fv (v : Value) : Int := match v with
  | .int x => x.toInt
  | .long x => x.toInt
  | .ref i => ((i : Nat) : Int)
  | _ => -1
noncomputable def fo (o : Option Nat) : Int := match o with
  | some i => (i : Int)
  | none => -1
theorem fv_rf (o : Option Nat) : fv (va_rf o) = fo o := by cases o <;> rfl
noncomputable def fcl (c : zz_C) (k : Nat) : Int := match c with
  | .inl xs => match xs[k]? with
    | some x => x.toInt
    | none => 0
  | .inr (.inl (_, rs)) => match rs[k]? with
    | some o => fo o
    | none => 0
  | .inr (.inr (_, fs)) => match fs[k]? with
    | some v => fv v
    | none => 0
noncomputable abbrev fH : Type := Int → Int → Int
noncomputable def fh (cs : zz_W) : fH := fun c k => match c with
  | .ofNat c => match k with
    | .ofNat k => match zz_cell cs c with
      | some d => fcl d k
      | none => 0
    | .negSucc _ => 0
  | .negSucc _ => 0
noncomputable def fu (h : fH) (c k z : Int) : fH := fun c' k' => if c' = c ∧ k' = k then z else h c' k'
noncomputable def fcp (h : fH) (i j n : Int) : fH := fun c k => if c = j ∧ 0 ≤ k ∧ k < n then h i k else h c k
theorem fh_at (cs : zz_W) (i k : Nat) {d : zz_C} (h : zz_cell cs i = some d) : fh cs i k = fcl d k := by
  show (match zz_cell cs i with | some d => fcl d k | none => 0) = _
  rw [h]
-- the kind of a cell
noncomputable def f1 (v : Value) : Bool := match v with
  | .long _ => false
  | .double _ => false
  | _ => true
theorem f1_iff {v : Value} : f1 v = true ↔ v.category = 1 := by cases v <;> simp [f1, Value.category]
noncomputable def fct (c : Option zz_C) : Nat × Nat × Nat := match c with
  | none => (3, 0, 0)
  | some (.inl xs) => (0, 0, xs.length)
  | some (.inr (.inl (t, rs))) => (1, t, rs.length)
  | some (.inr (.inr (ci, fs))) => match fs.all f1 with
    | true => (2, ci, fs.length)
    | false => (4, ci, fs.length)
noncomputable def fFX (cs : zz_W) : Prop := cs.map fct = f_ct ∧ ∀ e ∈ f_fx, fh cs e.1 e.2.1 = e.2.2
theorem f_set_ct {cs : zz_W} {i : Nat} {d d' : zz_C} (h : zz_cell cs i = some d) (hd : fct (some d') = fct (some d)) : (cs.set i (some d')).map fct = cs.map fct := by
  rw [List.map_set, hd]
  apply List.ext_getElem?
  intro j
  rw [List.getElem?_set]
  by_cases hj : i = j
  · subst hj
    have h1 := zz_cell_eq h
    rw [if_pos rfl, List.getElem?_map, h1]
    have hl := (List.getElem?_eq_some_iff.mp h1).1
    rw [List.length_map, if_pos hl]
    rfl
  · rw [if_neg hj]
theorem fh_set {cs : zz_W} {i k0 : Nat} {d d' : zz_C} {z : Int} (h : zz_cell cs i = some d) (hd : ∀ k, fcl d' k = if k = k0 then z else fcl d k) : fh (cs.set i (some d')) = fu (fh cs) i k0 z := by
  funext c k
  match c, k with
  | .ofNat c, .ofNat k =>
    show (match zz_cell (cs.set i (some d')) c with | some d => fcl d k | none => 0) = if (Int.ofNat c = (i : Int) ∧ Int.ofNat k = (k0 : Int)) then z else (match zz_cell cs c with | some d => fcl d k | none => 0)
    rw [t_cell_set h]
    by_cases hc : i = c
    · subst hc
      rw [if_pos rfl, h]
      dsimp only
      rw [hd]
      by_cases hk : k = k0
      · subst hk
        rw [if_pos rfl, if_pos ⟨rfl, rfl⟩]
      · rw [if_neg hk, if_neg (fun q => hk (Int.ofNat.inj q.2))]
    · rw [if_neg hc, if_neg (fun q => hc (Int.ofNat.inj q.1).symm)]
  | .ofNat c, .negSucc k =>
    show 0 = if (Int.ofNat c = (i : Int) ∧ Int.negSucc k = (k0 : Int)) then z else 0
    rw [if_neg (fun q => by cases q.2)]
  | .negSucc c, k =>
    show 0 = if (Int.negSucc c = (i : Int) ∧ k = (k0 : Int)) then z else 0
    rw [if_neg (fun q => by cases q.1)]
theorem f_kind {cs : zz_W} (hF : fFX cs) {i : Nat} {d : zz_C} (h : zz_cell cs i = some d) : f_ct[i]? = some (fct (some d)) := by
  rw [← hF.1, List.getElem?_map, zz_cell_eq h]
  rfl
theorem f_obj {cs : zz_W} (hF : fFX cs) {i ci : Nat} {fs : List Value} (h : zz_cell cs i = some (.inr (.inr (ci, fs)))) : f_ct[i]? = some (2, ci, fs.length) ∧ ∀ v ∈ fs, v.category = 1 := by
  have h1 := f_kind hF h
  simp only [fct] at h1
  split at h1
  · rename_i ha
    exact ⟨h1, fun v hv => f1_iff.mp (List.all_eq_true.mp ha v hv)⟩
  · exfalso
    have h2 : f_ct.all (fun e => decide (e.1 ≠ 4)) = true := by decide +kernel
    have h3 := List.all_eq_true.mp h2 _ (List.mem_of_getElem? h1)
    simp at h3
theorem fx_set {cs : zz_W} {i k0 : Nat} {d d' : zz_C} {z : Int} (hF : fFX cs) (h : zz_cell cs i = some d) (hk : fct (some d') = fct (some d)) (hd : ∀ k, fcl d' k = if k = k0 then z else fcl d k) (hn : ∀ e ∈ f_fx, ¬ (e.1 = i ∧ e.2.1 = k0)) : fFX (cs.set i (some d')) := by
  refine ⟨by rw [f_set_ct h hk]; exact hF.1, fun e he => ?_⟩
  rw [fh_set h hd]
  show (if ((e.1 : Int) = (i : Int) ∧ ((e.2.1 : Nat) : Int) = (k0 : Int)) then z else fh cs e.1 e.2.1) = _
  rw [if_neg (fun q => hn e he ⟨Int.ofNat.inj q.1, Int.ofNat.inj q.2⟩)]
  exact hF.2 e he
-- rules
noncomputable def f_fnd (ci k : Nat) : Option (Bool × Int × Nat) := (f_rl.find? (fun e => Nat.beq e.1 ci && Nat.beq e.2.1 k)).map (fun e => e.2.2)
noncomputable def f_arr (t : Nat) : Option Int := (f_as.find? (fun e => Nat.beq e.1 t)).map (fun e => e.2)
noncomputable def f_to (i : Nat) (e : Bool × Int × Nat) : Int := match e.1 with
  | true => e.2.1
  | false => (i : Int) + e.2.1
noncomputable def f_tgB (τ : Nat) (z : Int) : Bool := match τ with
  | 0 => true
  | 1 => false
  | t + 2 => match z with
    | .ofNat i => match f_ct[i]? with
      | some (a, u, _) => Nat.beq a 1 && Nat.beq u t
      | none => false
    | .negSucc _ => false
noncomputable def f_tgBq (τ : Nat) (z : Int) : Bool := match τ with
  | 0 => true
  | 1 => false
  | t + 2 => match z with
    | .ofNat i => match zz_pth f_ct i with
      | some (a, u, _) => Nat.beq a 1 && Nat.beq u t
      | none => false
    | .negSucc _ => false
theorem f_tgBe (τ : Nat) (z : Int) : f_tgB τ z = f_tgBq τ z := by
  match τ, z with
  | 0, _ => rfl
  | 1, _ => rfl
  | t + 2, .ofNat i =>
    show (match f_ct[i]? with
      | some (a, u, _) => Nat.beq a 1 && Nat.beq u t
      | none => false) = (match zz_pth f_ct i with
      | some (a, u, _) => Nat.beq a 1 && Nat.beq u t
      | none => false)
    rw [zz_pth_eq]
  | t + 2, .negSucc _ => rfl
noncomputable def f_k1 : Bool := f_rl.all (fun e => (List.range 298).all (fun i => match f_ct[i]? with
  | some (a, ci, _) => !(Nat.beq a 2 && Nat.beq ci e.1) || (f_fx.any (fun x => Nat.beq x.1 i && (Nat.beq x.2.1 e.2.1 && decide (((x.2.2 : Nat) : Int) = f_to i e.2.2))) && f_tgB e.2.2.2.2 (f_to i e.2.2))
  | none => true))
noncomputable def f_k1q : Bool := f_rl.all (fun e => (List.range 298).all (fun i => match zz_pth f_ct i with
  | some (a, ci, _) => !(Nat.beq a 2 && Nat.beq ci e.1) || (f_fx.any (fun x => Nat.beq x.1 i && (Nat.beq x.2.1 e.2.1 && decide (((x.2.2 : Nat) : Int) = f_to i e.2.2))) && f_tgBq e.2.2.2.2 (f_to i e.2.2))
  | none => true))
noncomputable def f_k2 : Bool := f_as.all (fun e => (List.range 298).all (fun i => match f_ct[i]? with
  | some (a, t, n) => !(Nat.beq a 1 && Nat.beq t e.1) || (List.range n).all (fun p => f_fx.any (fun x => Nat.beq x.1 i && (Nat.beq x.2.1 p && decide (((x.2.2 : Nat) : Int) = (i : Int) + 1 + e.2 * p))))
  | none => true))
noncomputable def f_k2q : Bool := f_as.all (fun e => (List.range 298).all (fun i => match zz_pth f_ct i with
  | some (a, t, n) => !(Nat.beq a 1 && Nat.beq t e.1) || (List.range n).all (fun p => f_fx.any (fun x => Nat.beq x.1 i && (Nat.beq x.2.1 p && decide (((x.2.2 : Nat) : Int) = (i : Int) + 1 + e.2 * p))))
  | none => true))
noncomputable def f_k3 : Bool := f_fx.all (fun x => match f_ct[x.1]? with
  | some (a, c, _) => (Nat.beq a 2 && (f_fnd c x.2.1).isSome) || (Nat.beq a 1 && (f_arr c).isSome)
  | none => false)
noncomputable def f_k3q : Bool := f_fx.all (fun x => match zz_pth f_ct x.1 with
  | some (a, c, _) => (Nat.beq a 2 && (f_fnd c x.2.1).isSome) || (Nat.beq a 1 && (f_arr c).isSome)
  | none => false)
set_option maxRecDepth 1000000 in
theorem f_c1q : f_k1q = true := by decide +kernel
theorem f_c1 : f_k1 = true := by
  have h := f_c1q
  unfold f_k1q at h
  unfold f_k1
  simp only [zz_pth_eq, ← f_tgBe] at h
  exact h
set_option maxRecDepth 1000000 in
theorem f_c2q : f_k2q = true := by decide +kernel
theorem f_c2 : f_k2 = true := by
  have h := f_c2q
  unfold f_k2q at h
  unfold f_k2
  simp only [zz_pth_eq, ← f_tgBe] at h
  exact h
set_option maxRecDepth 1000000 in
theorem f_c3q : f_k3q = true := by decide +kernel
theorem f_c3 : f_k3 = true := by
  have h := f_c3q
  unfold f_k3q at h
  unfold f_k3
  simp only [zz_pth_eq, ← f_tgBe] at h
  exact h
theorem f_cl : f_ct.length = 298 := by decide +kernel
theorem f_lt {i : Nat} {x : Nat × Nat × Nat} (h : f_ct[i]? = some x) : i ∈ List.range 298 := List.mem_range.mpr (by rw [← f_cl]; exact (List.getElem?_eq_some_iff.mp h).1)
theorem f_find {α β : Type} {l : List α} {p : α → Bool} {g : α → β} {y : β} (h : (l.find? p).map g = some y) : ∃ a ∈ l, p a = true ∧ g a = y := by
  rw [Option.map_eq_some_iff] at h
  obtain ⟨a, h1, h2⟩ := h
  exact ⟨a, List.mem_of_find?_eq_some h1, List.find?_some h1, h2⟩
theorem f_rule {cs : zz_W} {i ci k n : Nat} {e : Bool × Int × Nat} (hF : fFX cs) (h : f_fnd ci k = some e) (hi : f_ct[i]? = some (2, ci, n)) : fh cs i k = f_to i e ∧ f_tgB e.2.2 (f_to i e) = true := by
  obtain ⟨a, h1, h2, h3⟩ := f_find h
  have h4 := List.all_eq_true.mp (List.all_eq_true.mp f_c1 a h1) i (f_lt hi)
  rw [hi] at h4
  simp only [Bool.and_eq_true] at h2
  have e1 := Nat.eq_of_beq_eq_true h2.1
  have e2 := Nat.eq_of_beq_eq_true h2.2
  subst e1
  subst e2
  subst h3
  simp only [Nat.beq_refl, Bool.and_self, Bool.not_true, Bool.false_or, Bool.and_eq_true, List.any_eq_true, decide_eq_true_eq] at h4
  obtain ⟨⟨x, h5, h6, h7, h8⟩, h9⟩ := h4
  have e3 := Nat.eq_of_beq_eq_true h6
  have e4 := Nat.eq_of_beq_eq_true h7
  refine ⟨?_, h9⟩
  rw [← h8, ← hF.2 x h5, e3, e4]
theorem f_arule {cs : zz_W} {i t n p : Nat} {m : Int} (hF : fFX cs) (h : f_arr t = some m) (hi : f_ct[i]? = some (1, t, n)) (hp : p < n) : fh cs i p = (i : Int) + 1 + m * p := by
  obtain ⟨a, h1, h2, h3⟩ := f_find h
  have h4 := List.all_eq_true.mp (List.all_eq_true.mp f_c2 a h1) i (f_lt hi)
  rw [hi] at h4
  have e1 := Nat.eq_of_beq_eq_true h2
  subst e1
  subst h3
  simp only [Nat.beq_refl, Bool.and_self, Bool.not_true, Bool.false_or] at h4
  have h5 := List.all_eq_true.mp h4 p (List.mem_range.mpr hp)
  simp only [List.any_eq_true, Bool.and_eq_true, decide_eq_true_eq] at h5
  obtain ⟨x, h6, h7, h8, h9⟩ := h5
  rw [← h9, ← hF.2 x h6, Nat.eq_of_beq_eq_true h7, Nat.eq_of_beq_eq_true h8]
theorem f_nfx {i c k n : Nat} (h : f_fnd c k = none) (hi : f_ct[i]? = some (2, c, n)) : ∀ e ∈ f_fx, ¬ (e.1 = i ∧ e.2.1 = k) := fun e he q => by
  have h1 := List.all_eq_true.mp f_c3 e he
  rw [q.1, q.2, hi] at h1
  dsimp only at h1
  rw [h] at h1
  exact Bool.noConfusion (show false = true from h1)
theorem f_nfa {i c k n : Nat} (h : f_arr c = none) (hi : f_ct[i]? = some (1, c, n)) : ∀ e ∈ f_fx, ¬ (e.1 = i ∧ e.2.1 = k) := fun e he q => by
  have h1 := List.all_eq_true.mp f_c3 e he
  rw [q.1, hi] at h1
  dsimp only at h1
  rw [h] at h1
  exact Bool.noConfusion (show false = true from h1)
theorem f_nfi {i k n m : Nat} (hi : f_ct[i]? = some (0, n, m)) : ∀ e ∈ f_fx, ¬ (e.1 = i ∧ e.2.1 = k) := fun e he q => by
  have h1 := List.all_eq_true.mp f_c3 e he
  rw [q.1, hi] at h1
  exact Bool.noConfusion (show false = true from h1)
-- an update of a slot
theorem f_cl_i {xs : List Int32} {j : Nat} (hj : j < xs.length) (x : Int32) (k : Nat) : fcl (.inl (xs.set j x)) k = if k = j then x.toInt else fcl (.inl xs) k := by
  simp only [fcl, List.getElem?_set]
  by_cases hk : j = k
  · subst hk
    rw [if_pos rfl, if_pos hj, if_pos rfl]
  · rw [if_neg hk, if_neg (fun q => hk q.symm)]
theorem f_cl_q {t : Nat} {rs : List (Option Nat)} {j : Nat} (hj : j < rs.length) (o : Option Nat) (k : Nat) : fcl (.inr (.inl (t, rs.set j o))) k = if k = j then fo o else fcl (.inr (.inl (t, rs))) k := by
  simp only [fcl, List.getElem?_set]
  by_cases hk : j = k
  · subst hk
    rw [if_pos rfl, if_pos hj, if_pos rfl]
  · rw [if_neg hk, if_neg (fun q => hk q.symm)]
theorem f_cl_o {c : Nat} {fs : List Value} {j : Nat} (hj : j < fs.length) (v : Value) (k : Nat) : fcl (.inr (.inr (c, fs.set j v))) k = if k = j then fv v else fcl (.inr (.inr (c, fs))) k := by
  simp only [fcl, List.getElem?_set]
  by_cases hk : j = k
  · subst hk
    rw [if_pos rfl, if_pos hj, if_pos rfl]
  · rw [if_neg hk, if_neg (fun q => hk q.symm)]
theorem f_all_set {fs : List Value} {j : Nat} {v : Value} (ha : ∀ u ∈ fs, u.category = 1) (hv : v.category = 1) : (fs.set j v).all f1 = true ∧ fs.all f1 = true := by
  refine ⟨List.all_eq_true.mpr (fun u hu => f1_iff.mpr ?_), List.all_eq_true.mpr (fun u hu => f1_iff.mpr (ha u hu))⟩
  rcases List.mem_or_eq_of_mem_set hu with q | q
  · exact ha u q
  · rw [q]
    exact hv
theorem f_put {cs : zz_W} {i ci k : Nat} {fs : List Value} {v : Value} (hF : fFX cs) (h : zz_cell cs i = some (.inr (.inr (ci, fs)))) (hk : k < fs.length) (hr : f_fnd ci k = none) (hv : v.category = 1) : fFX (cs.set i (some (.inr (.inr (ci, fs.set k v))))) ∧ fh (cs.set i (some (.inr (.inr (ci, fs.set k v))))) = fu (fh cs) i k (fv v) := by
  obtain ⟨h1, h2⟩ := f_obj hF h
  obtain ⟨a1, a2⟩ := f_all_set (j := k) h2 hv
  exact ⟨fx_set hF h (by simp only [fct]; rw [a1, a2, List.length_set]) (f_cl_o hk v) (f_nfx hr h1), fh_set h (f_cl_o hk v)⟩
theorem f_sti {cs : zz_W} {i j : Nat} {xs : List Int32} {x : Int32} (hF : fFX cs) (h : zz_cell cs i = some (.inl xs)) (hj : j < xs.length) : fFX (cs.set i (some (.inl (xs.set j x)))) ∧ fh (cs.set i (some (.inl (xs.set j x)))) = fu (fh cs) i j x.toInt :=
  ⟨fx_set hF h (by simp only [fct]; rw [List.length_set]) (f_cl_i hj x) (f_nfi (f_kind hF h)), fh_set h (f_cl_i hj x)⟩
theorem f_sta {cs : zz_W} {i j t w : Nat} {rs : List (Option Nat)} (hF : fFX cs) (h : zz_cell cs i = some (.inr (.inl (t, rs)))) (hj : j < rs.length) (ht : f_arr t = none) : fFX (cs.set i (some (.inr (.inl (t, rs.set j (some w)))))) ∧ fh (cs.set i (some (.inr (.inl (t, rs.set j (some w)))))) = fu (fh cs) i j w :=
  ⟨fx_set hF h (by simp only [fct]; rw [List.length_set]) (f_cl_q hj (some w)) (f_nfa ht (f_kind hF h)), fh_set h (f_cl_q hj (some w))⟩
theorem f_cpy {cs : zz_W} {i j n : Nat} {xs ys : List Int32} (hF : fFX cs) (hi : zz_cell cs i = some (.inl xs)) (hj : zz_cell cs j = some (.inl ys)) (h1 : n ≤ xs.length) (h2 : n ≤ ys.length) : fFX (cs.set j (some (.inl (xs.take n ++ ys.drop n)))) ∧ fh (cs.set j (some (.inl (xs.take n ++ ys.drop n)))) = fcp (fh cs) i j n := by
  have hlen : (xs.take n ++ ys.drop n).length = ys.length := by
    rw [List.length_append, List.length_take, List.length_drop]
    omega
  have hcl : ∀ k : Nat, fcl (.inl (xs.take n ++ ys.drop n)) k = if k < n then fcl (.inl xs) k else fcl (.inl ys) k := fun k => by
    simp only [fcl]
    by_cases hk : k < n
    · rw [if_pos hk, List.getElem?_append_left (by rw [List.length_take]; omega), List.getElem?_take, if_pos hk]
    · rw [if_neg hk, List.getElem?_append_right (by rw [List.length_take]; omega), List.length_take, List.getElem?_drop]
      have e : n + (k - min n xs.length) = k := by omega
      rw [e]
  have hfh : fh (cs.set j (some (.inl (xs.take n ++ ys.drop n)))) = fcp (fh cs) i j n := by
    funext c k
    match c, k with
    | .ofNat c, .ofNat k =>
      show (match zz_cell (cs.set j (some (.inl (xs.take n ++ ys.drop n)))) c with | some d => fcl d k | none => 0) = if (Int.ofNat c = (j : Int) ∧ 0 ≤ Int.ofNat k ∧ Int.ofNat k < (n : Int)) then fh cs i (Int.ofNat k) else (match zz_cell cs c with | some d => fcl d k | none => 0)
      rw [t_cell_set hj]
      by_cases hc : j = c
      · subst hc
        rw [if_pos rfl, hj]
        dsimp only
        rw [hcl]
        by_cases hk : k < n
        · rw [if_pos hk, if_pos ⟨rfl, Int.natCast_nonneg k, Int.ofNat_lt.mpr hk⟩]
          exact (fh_at cs i k hi).symm
        · rw [if_neg hk, if_neg (fun q => hk (Int.ofNat_lt.mp q.2.2))]
      · rw [if_neg hc, if_neg (fun q => hc (Int.ofNat.inj q.1).symm)]
    | .ofNat c, .negSucc k =>
      show 0 = if (Int.ofNat c = (j : Int) ∧ 0 ≤ Int.negSucc k ∧ Int.negSucc k < (n : Int)) then fh cs i (Int.negSucc k) else 0
      rw [if_neg (fun q => absurd q.2.1 (by omega))]
    | .negSucc c, k =>
      show 0 = if (Int.negSucc c = (j : Int) ∧ 0 ≤ k ∧ k < (n : Int)) then fh cs i k else 0
      rw [if_neg (fun q => by cases q.1)]
  refine ⟨⟨by rw [f_set_ct hj (by simp only [fct]; rw [hlen])]; exact hF.1, fun e he => ?_⟩, hfh⟩
  rw [hfh]
  show (if ((e.1 : Int) = (j : Int) ∧ 0 ≤ ((e.2.1 : Nat) : Int) ∧ ((e.2.1 : Nat) : Int) < (n : Int)) then fh cs i e.2.1 else fh cs e.1 e.2.1) = _
  rw [if_neg (fun q => f_nfi (k := e.2.1) (f_kind hF hj) e he ⟨Int.ofNat.inj q.1, rfl⟩)]
  exact hF.2 e he
-- which methods a call may come to; instructions that leave what never changes
noncomputable def f_alts : List Nat → List Nat
  | _ :: k :: _ :: r => k :: f_alts r
  | _ => []
noncomputable def f_tg (r : List Nat) : List Nat := match r with
  | 8 :: _ :: _ :: _ :: alts => f_alts alts
  | _ :: k :: _ => [k]
  | _ => []
noncomputable def f_ok (k : Nat) : Bool := !f_bad.contains k
noncomputable def f_okI (e : zz_I) : Bool := match e.2.1 with
  | .new _ => false
  | .newarray _ => false
  | .anewarray _ => false
  | .multianewarray _ _ => false
  | .putfield _ => match e.2.2.2.1 with
    | [ci, k, _, tc] => (f_fnd ci k).isNone && !Nat.beq tc 3
    | _ => false
  | .aastore => match e.2.2.2.1 with
    | [t, _, _] => (f_arr t).isNone
    | _ => false
  | .invokestatic _ => match e.2.2.2.1 with
    | [_, _, _, _, _] => true
    | r => (f_tg r).all f_ok
  | .invokespecial _ => (f_tg e.2.2.2.1).all f_ok
  | .invokevirtual _ => (f_tg e.2.2.2.1).all f_ok
  | _ => true
noncomputable def f_okM (mi : zz_Mi) : Bool := mi.2.2.2.2.2.2.2.2.all (fun ch => ch.all f_okI)
set_option maxRecDepth 1000000 in
theorem f_okAq : (List.range 253).all (fun j => !f_ok j || match zz_pth zz_mts j with
  | some mi => f_okM mi
  | none => true) = true := by decide +kernel
theorem f_okA : (List.range 253).all (fun j => !f_ok j || match zz_mts[j]? with
  | some mi => f_okM mi
  | none => true) = true := by
  have h := f_okAq
  simp only [zz_pth_eq] at h
  exact h
theorem f_mtl : zz_mts.length = 253 := by decide +kernel
theorem f_okm {j : Nat} {mi : zz_Mi} (h : zz_mts[j]? = some mi) (ho : f_ok j = true) : f_okM mi = true := by
  have h1 := List.all_eq_true.mp f_okA j (List.mem_range.mpr (by rw [← f_mtl]; exact (List.getElem?_eq_some_iff.mp h).1))
  rw [h, ho] at h1
  exact h1
theorem f_oke {mi : zz_Mi} {pc : Nat} {e : zz_I} (ho : f_okM mi = true) (hf : zz_fetch mi.2.2.2.2.2.2.2.2 pc = some e) : f_okI e = true := by
  obtain ⟨⟨ch, h1, h2⟩, -⟩ := zz_fetch_ok hf
  exact List.all_eq_true.mp (List.all_eq_true.mp ho ch h1) e h2
end
section
/-! the functional view: what never changes is kept by every run; what an answer is -/
theorem f_ix {j : Int32} {n : Nat} (h : zz_ix j n = true) : 0 ≤ j.toInt ∧ j.toNatClampNeg < n ∧ ((j.toNatClampNeg : Nat) : Int) = j.toInt := by
  simp only [zz_ix, Bool.and_eq_true, Bool.not_eq_true', decide_eq_false_iff_not, decide_eq_true_eq] at h
  obtain ⟨h1, h2⟩ := h
  rw [Int32.lt_iff_toInt_lt] at h1
  have h3 : ¬ j.toInt < 0 := h1
  refine ⟨by omega, h2, ?_⟩
  show ((j.toInt.toNat : Nat) : Int) = _
  rw [Int.toNat_of_nonneg (by omega)]
theorem f_fit {tc : Nat} {v : Value} (h : zz_fit tc v = true) (h3 : Nat.beq tc 3 = false) : v.category = 1 := by
  unfold zz_fit at h
  split at h
  · split at h <;> first | rfl | cases h
  · split at h <;> first | rfl | cases h
  · split at h <;> first | rfl | cases h
  · cases h3
  · cases h
theorem fx_db {ins : Instr} {len pc0 : Nat} {r : List Nat} {v0 : Value} {pc pc' : Nat} {L L' : List (Option Value)} {st st' : List Value} {cs cs' : zz_W} (h : zz_db ins r v0 pc L st cs = some (pc', L', st', cs')) (ho : f_okI (pc0, ins, len, r, v0) = true) (hF : fFX cs) : fFX cs' := by
  unfold zz_db at h
  split at h
  · split at h
    · split at h
      · split at h
        · split at h
          · split at h
            · cases h
              exact hF
            · cases h
          · cases h
        · cases h
      · cases h
    · cases h
  · split at h
    · rename_i ci k w tc
      split at h
      · split at h
        · rename_i cj fs hc
          split at h
          · rename_i hq
            cases h
            obtain ⟨q1, q2, q3⟩ := hq
            subst q1
            simp only [f_okI, Bool.and_eq_true, Bool.not_eq_true', Option.isNone_iff_eq_none] at ho
            exact (f_put hF hc q2 ho.1 (f_fit q3 ho.2)).1
          · cases h
        · cases h
      · cases h
    · cases h
  · split at h
    · split at h
      · split at h
        · cases h
          exact hF
        · cases h
      · cases h
    · cases h
  · split at h
    · split at h
      · rename_i hc
        split at h
        · rename_i hq
          cases h
          exact (f_sti hF hc (f_ix hq).2.1).1
        · cases h
      · cases h
    · cases h
  · split at h
    · split at h
      · split at h
        · cases h
          exact hF
        · cases h
      · cases h
    · cases h
  · split at h
    · rename_i t ci w
      split at h
      · split at h
        · rename_i hc
          split at h
          · split at h
            · rename_i hq
              cases h
              obtain ⟨q1, q2, q3⟩ := hq
              subst q1
              simp only [f_okI, Option.isNone_iff_eq_none] at ho
              exact (f_sta hF hc (f_ix q3).2.1 ho).1
            · cases h
          · cases h
        · cases h
      · cases h
    · cases h
  · split at h
    · split at h
      · cases h
        exact hF
      · split at h
        · cases h
          exact hF
        · cases h
      · cases h
    · cases h
  · cases h
    exact hF
  · cases h
    exact hF
  · cases h
    exact hF
  · cases h
theorem fx_al {ins : Instr} {len pc0 : Nat} {r : List Nat} {v0 : Value} {a b pc cu su : Nat} {L : List (Option Value)} {st : List Value} {cs : zz_W} (ho : f_okI (pc0, ins, len, r, v0) = true) : zz_al ins r a b pc L st cs cu su = none := by
  unfold zz_al
  split
  · cases ho
  · cases ho
  · cases ho
  · cases ho
  · rfl
theorem f_neg {n : Int32} (h : ¬ n < 0) : ((n.toNatClampNeg : Nat) : Int) = n.toInt := by
  rw [Int32.lt_iff_toInt_lt] at h
  have h3 : ¬ n.toInt < 0 := h
  show ((n.toInt.toNat : Nat) : Int) = _
  rw [Int.toNat_of_nonneg (by omega)]
theorem fx_na {ins : Instr} {r : List Nat} {fr lo pc pc' : Nat} {L L' : List (Option Value)} {st st' : List Value} {cs cs' : zz_W} (h : zz_na ins r fr lo pc L st cs = some (pc', L', st', cs')) (hF : fFX cs) : fFX cs' := by
  unfold zz_na at h
  split at h
  · split at h
    · split at h
      · split at h
        · cases h
          exact hF
        · cases h
      · cases h
    · cases h
  · split at h
    · split at h
      · split at h
        · cases h
          exact hF
        · cases h
      · cases h
    · split at h
      · split at h
        · cases h
          exact hF
        · cases h
      · cases h
    · split at h
      · split at h
        · rename_i hi
          split at h
          · rename_i hj
            split at h
            · rename_i hq
              cases h
              exact (f_cpy hF hi hj hq.2.2.2.2.2.1 hq.2.2.2.2.2.2).1
            · cases h
          · cases h
        · cases h
      · cases h
    · cases h
  · cases h
theorem fx_one {q : Nat × Nat × Nat × Nat} {e : zz_I} {pc : Nat} {L : List (Option Value)} {st : List Value} {cs : zz_W} {cu su : Nat} {σ' : zz_S} (h : zz_one q e (pc, L, st, cs, cu, su) = some σ') (ho : f_okI e = true) (hF : fFX cs) : fFX σ'.2.2.2.1 := by
  obtain ⟨p, ins, len, r, v0⟩ := e
  simp only [zz_one] at h
  split at h
  · cases h
    exact hF
  · split at h
    · rename_i hd
      cases h
      exact fx_db hd ho hF
    · rw [fx_al ho] at h
      dsimp only at h
      split at h
      · rename_i hd
        cases h
        exact fx_na hd hF
      · cases h
theorem f_alt_in {ci k w : Nat} : ∀ {l : List Nat}, zz_alt ci l = some (k, w) → k ∈ f_alts l
  | [], h => by cases h
  | [_], h => by cases h
  | [_, _], h => by cases h
  | a :: k' :: w' :: r, h => by
    unfold zz_alt at h
    split at h
    · cases h
      exact List.mem_cons_self
    · exact List.mem_cons_of_mem _ (f_alt_in h)
theorem f_call {ins : Instr} {r : List Nat} {st : List Value} {cs : zz_W} {mj : zz_Mi} (h : zz_ca ins r st cs = some mj) : ∃ k ∈ f_tg r, zz_mts[k]? = some mj := by
  unfold zz_ca at h
  split at h
  · split at h
    · exact ⟨_, List.mem_cons_self, h⟩
    · exact ⟨_, List.mem_cons_self, h⟩
    · cases h
  · split at h
    all_goals first
      | cases h; done
      | (split at h
         · rename_i hm
           split at h
           · cases h
             exact ⟨_, List.mem_cons_self, hm⟩
           · cases h
         · cases h)
  · split at h
    · split at h
      · rename_i hm
        split at h
        · split at h
          · cases h
            exact ⟨_, List.mem_cons_self, hm⟩
          · cases h
        · cases h
      · cases h
    · split at h
      · rename_i hm
        split at h
        · split at h
          · cases h
            exact ⟨_, List.mem_cons_self, hm⟩
          · cases h
        · cases h
      · cases h
    · split at h
      · split at h
        · split at h
          · rename_i ha
            split at h
            · rename_i hm
              split at h
              · cases h
                exact ⟨_, f_alt_in ha, hm⟩
              · cases h
            · cases h
          · cases h
        · cases h
      · cases h
    · cases h
  · cases h
theorem f_tgok {pc0 len : Nat} {ins : Instr} {r : List Nat} {v0 : Value} {st : List Value} {cs : zz_W} {mj : zz_Mi} (h : zz_ca ins r st cs = some mj) (ho : f_okI (pc0, ins, len, r, v0) = true) : ∃ k, f_ok k = true ∧ zz_mts[k]? = some mj := by
  obtain ⟨k, hk, hm⟩ := f_call h
  refine ⟨k, ?_, hm⟩
  have hall : (f_tg r).all f_ok = true := by
    unfold zz_ca at h
    split at h
    · split at h
      · exact ho
      · exact ho
      · cases h
    · exact ho
    · exact ho
    · cases h
  exact List.all_eq_true.mp hall k hk
/-- a run, one step at a time -/
theorem f_cut {m : Nat} {mi : zz_Mi} {pc : Nat} {L : List (Option Value)} {t : List Value} {cs : zz_W} {cu su : Nat} {v : Option Value} {cs' : zz_W} (h : zz_ev m mi (pc, L, t, cs, cu, su) = some (v, cs')) : ∃ m0 e, m = m0 + 1 ∧ zz_fetch mi.2.2.2.2.2.2.2.2 pc = some e ∧ ((∃ σ', zz_one mi.2.2.2.2.2.2.1 e (pc, L, t, cs, cu, su) = some σ' ∧ zz_ev m0 mi σ' = some (v, cs')) ∨ (zz_one mi.2.2.2.2.2.2.1 e (pc, L, t, cs, cu, su) = none ∧ zz_rt1 e.2.1 mi.2.2.2.1 t = some v ∧ cs' = cs) ∨ (zz_one mi.2.2.2.2.2.2.1 e (pc, L, t, cs, cu, su) = none ∧ zz_rt1 e.2.1 mi.2.2.2.1 t = none ∧ ∃ mj w cs1, zz_ca e.2.1 e.2.2.2.1 t cs = some mj ∧ zz_ev m0 mj (0, zz_ent mj.2.2.1 (t.take (zz_cn mj)).reverse, [], cs, 0, 0) = some (w, cs1) ∧ zz_ev m0 mi (pc + 3, L, w.toList ++ t.drop (zz_cn mj), cs1, cu + mj.2.2.2.2.2.2.1.1, su + mj.2.2.2.2.2.2.1.2.1) = some (v, cs'))) := by
  match m, h with
  | 0, h => cases h
  | m0 + 1, h =>
    unfold zz_ev at h
    split at h
    · cases h
    · rename_i e he
      refine ⟨m0, e, rfl, he, ?_⟩
      split at h
      · rename_i σ' h1
        exact Or.inl ⟨σ', h1, h⟩
      · rename_i h1
        split at h
        · rename_i w h2
          cases h
          exact Or.inr (Or.inl ⟨h1, h2, rfl⟩)
        · rename_i h2
          split at h
          · cases h
          · rename_i mj h3
            split at h
            · cases h
            · split at h
              · cases h
              · rename_i w cs1 h4
                exact Or.inr (Or.inr ⟨h1, h2, mj, w, cs1, h3, h4, h⟩)
theorem fx_ev : ∀ (m : Nat) (mi : zz_Mi) (pc : Nat) (L : List (Option Value)) (t : List Value) (cs : zz_W) (cu su : Nat) (v : Option Value) (cs' : zz_W), f_okM mi = true → fFX cs → zz_ev m mi (pc, L, t, cs, cu, su) = some (v, cs') → fFX cs'
  | 0, mi, pc, L, t, cs, cu, su, v, cs', _, _, h => by cases h
  | m + 1, mi, pc, L, t, cs, cu, su, v, cs', ho, hF, h => by
    obtain ⟨m0, e, hm, he, h1 | h1 | h1⟩ := f_cut h
    · obtain ⟨⟨pc', L', t', cs1, cu', su'⟩, h2, h3⟩ := h1
      have : m0 = m := by omega
      subst this
      exact fx_ev m0 mi pc' L' t' cs1 cu' su' v cs' ho (fx_one h2 (f_oke ho he) hF) h3
    · rw [h1.2.2]
      exact hF
    · obtain ⟨h2, h3, mj, w, cs1, h4, h5, h6⟩ := h1
      have : m0 = m := by omega
      subst this
      obtain ⟨pc0, ins, len, r, v0⟩ := e
      obtain ⟨k, hk, hkm⟩ := f_tgok h4 (f_oke ho he)
      exact fx_ev m0 mi _ _ _ cs1 _ _ v cs' ho (fx_ev m0 mj _ _ _ cs _ _ w cs1 (f_okm hkm hk) hF h5) h6
/-- the tag of an answer -/
noncomputable def f_rtg (r : Option FieldType) : Option Nat := match r with
  | none => none
  | some .long => some 1
  | some _ => some 0
noncomputable def f_rok (a : Option Nat) (v : Option Value) : Prop := match a with
  | none => v = none
  | some 1 => ∃ u, v = some u ∧ u.category = 2
  | some _ => ∃ u, v = some u ∧ u.category = 1
theorem f_ret {ins : Instr} {r : Option FieldType} {t : List Value} {v : Option Value} (h : zz_rt1 ins r t = some v) : f_rok (f_rtg r) v := by
  unfold zz_rt1 at h
  split at h
  · split at h
    · split at h
      · cases h
        exact ⟨_, rfl, rfl⟩
      · split at h
        · cases h
          exact ⟨_, rfl, rfl⟩
        · cases h
      · cases h
    · cases h
  · split at h
    · split at h
      · cases h
        exact ⟨_, rfl, rfl⟩
      · cases h
    · cases h
  · split at h
    · split at h
      · cases h
        rfl
      · cases h
    · cases h
  · cases h
theorem f_ret_ev : ∀ (m : Nat) (mi : zz_Mi) (σ : zz_S) (v : Option Value) (cs' : zz_W), zz_ev m mi σ = some (v, cs') → f_rok (f_rtg mi.2.2.2.1) v
  | 0, _, _, _, _, h => by cases h
  | m + 1, mi, σ, v, cs', h => by
    obtain ⟨pc, L, t, cs, cu, su⟩ := σ
    obtain ⟨m0, e, hm, he, h1 | h1 | h1⟩ := f_cut h
    · obtain ⟨σ', h2, h3⟩ := h1
      have : m0 = m := by omega
      subst this
      exact f_ret_ev m0 mi σ' v cs' h3
    · exact f_ret h1.2.1
    · obtain ⟨h2, h3, mj, w, cs1, h4, h5, h6⟩ := h1
      have : m0 = m := by omega
      subst this
      exact f_ret_ev m0 mi _ v cs' h6
end
section
/-! trees of what a method does, in ints: their meaning (xd), and the check that a tree is a method's (xc). An operand is a name (its number) or an int; a node: what, operands, a number, an int -/
noncomputable abbrev xO : Type := Nat ⊕ Int
noncomputable abbrev xN : Type := Nat × List xO × Nat × Int
noncomputable abbrev xT : Type := List xN
noncomputable def wr (z : Int) : Int := Int.bmod z 4294967296
noncomputable def wl (z : Int) : Int := Int.bmod z 18446744073709551616
noncomputable def xand (a b : Int) : Int := (Int32.ofInt a &&& Int32.ofInt b).toInt
noncomputable def xor' (a b : Int) : Int := (Int32.ofInt a ||| Int32.ofInt b).toInt
noncomputable def xxor (a b : Int) : Int := (Int32.ofInt a ^^^ Int32.ofInt b).toInt
noncomputable def xshl (a b : Int) : Int := (Int32.ofInt a <<< (Int32.ofInt b &&& 31)).toInt
noncomputable def xshr (a b : Int) : Int := (Int32.ofInt a >>> (Int32.ofInt b &&& 31)).toInt
noncomputable def xushr (a b : Int) : Int := (((Int32.ofInt a).toUInt32 >>> ((Int32.ofInt b).toUInt32 &&& Int32.toUInt32 31)).toInt32).toInt
noncomputable def xdiv (a b : Int) : Int := wr (Int.tdiv a b)
noncomputable def xrem (a b : Int) : Int := wr (a - wr (wr (Int.tdiv a b) * b))
noncomputable def xmax (a b : Int) : Int := if a < b then b else a
noncomputable def xmin (a b : Int) : Int := if b < a then b else a
noncomputable def xldiv (a b : Int) : Int := wl (Int.tdiv a b)
noncomputable def xlrem (a b : Int) : Int := wl (a - wl (wl (Int.tdiv a b) * b))
noncomputable def xlcmp (a b : Int) : Int := if b < a then 1 else if a = b then 0 else -1
noncomputable def xop2 (o : Nat) (a b : Int) : Int := match o with
  | 0 => wr (a + b)
  | 1 => wr (a - b)
  | 2 => wr (a * b)
  | 3 => xand a b
  | 4 => xor' a b
  | 5 => xxor a b
  | 6 => xshl a b
  | 7 => xshr a b
  | 8 => xushr a b
  | 9 => xdiv a b
  | 10 => xrem a b
  | 11 => xmax a b
  | 12 => xmin a b
  | 13 => wl (a + b)
  | 14 => wl (a - b)
  | 15 => wl (a * b)
  | 16 => xldiv a b
  | 17 => xlrem a b
  | 18 => xlcmp a b
  | _ => 0
noncomputable def xop1 (o : Nat) (a : Int) : Int := match o with
  | 0 => wr (-a)
  | 1 => wr a
  | _ => 0
noncomputable def xcmp (o : Nat) (a b : Int) : Prop := match o with
  | 0 => a = b
  | 1 => a ≠ b
  | 2 => a < b
  | 3 => b ≤ a
  | 4 => b < a
  | 5 => a ≤ b
  | _ => True
noncomputable def xng (o : Nat) : Nat := match o with
  | 0 => 1
  | 1 => 0
  | 2 => 3
  | 3 => 2
  | 4 => 5
  | 5 => 4
  | _ => 6
noncomputable def xg (ρ : List Int) (i : Nat) : Int := List.rec (motive := fun _ => Nat → Int) (fun _ => 0) (fun a _ ih i => Nat.rec (motive := fun _ => Int) a (fun j _ => ih j) i) ρ i
noncomputable def xe (ρ : List Int) (o : xO) : Int := match o with
  | .inl i => xg ρ i
  | .inr z => z
noncomputable def xes (ρ : List Int) (l : List xO) : List Int := List.rec (motive := fun _ => List Int) [] (fun o _ ih => xe ρ o :: ih) l
/-- the length of an array -/
noncomputable def f_len (z : Int) : Int := match z with
  | .ofNat i => match f_ct[i]? with
    | some (_, _, n) => (n : Int)
    | none => 0
  | .negSucc _ => 0
/-- a method's runs: arguments, cells before, answer, cells behind -/
noncomputable def fvo (v : Option Value) : Int := match v with
  | some u => fv u
  | none => 0
noncomputable def xtB (τ : Nat) (u : Value) : Prop := match τ with
  | 0 => u.category = 1
  | 1 => u.category = 2
  | t + 2 => u.category = 1 ∧ ∀ i, u = .ref i → ∃ n, f_ct[i]? = some (1, t, n)
noncomputable def xTs : List Nat → List Value → Prop
  | [], [] => True
  | τ :: r, u :: us => xtB τ u ∧ xTs r us
  | _, _ => False
noncomputable def fS (j : Nat) (as : List Int) (h : fH) (v : Int) (h' : fH) : Prop := ∃ mi n us cs w cs', zz_mts[j]? = some mi ∧ f_ok j = true ∧ fFX cs ∧ zz_ev n mi (0, zz_ent mi.2.2.1 us, [], cs, 0, 0) = some (w, cs') ∧ xTs ((f_tags[j]?).getD []) us ∧ us.map fv = as ∧ fh cs = h ∧ fh cs' = h' ∧ v = fvo w
noncomputable def xnd (I : Nat → List Int → fH → Prop) (Q : Int → fH → Prop) (nd : xN) (ih : Nat → List Int → fH → Prop) (ρ : List Int) (h : fH) : Prop := match nd with
  | (0, [c], k, _) => ∀ z' : Int, z' = h (xe ρ c) (k : Int) → ih 0 (ρ ++ [z']) h
  | (1, [c, i], _, _) => ∀ z' : Int, z' = h (xe ρ c) (xe ρ i) → ih 0 (ρ ++ [z']) h
  | (2, [c, v], k, _) => ∀ h' : fH, h' = fu h (xe ρ c) (k : Int) (xe ρ v) → ih 0 ρ h'
  | (3, [c, i, v], _, _) => ∀ h' : fH, h' = fu h (xe ρ c) (xe ρ i) (xe ρ v) → ih 0 ρ h'
  | (4, [a], _, z) => ∀ z' : Int, z' = xe ρ a + z → ih 0 (ρ ++ [z']) h
  | (5, [a, p], _, z) => ∀ z' : Int, z' = xe ρ a + 1 + z * xe ρ p → ih 0 (ρ ++ [z']) h
  | (6, [a], _, _) => ∀ z' : Int, z' = f_len (xe ρ a) → ih 0 (ρ ++ [z']) h
  | (7, [i, j, n], _, _) => ∀ h' : fH, h' = fcp h (xe ρ i) (xe ρ j) (xe ρ n) → ih 0 ρ h'
  | (8, [a, b], o, _) => ∀ z' : Int, z' = xop2 o (xe ρ a) (xe ρ b) → ih 0 (ρ ++ [z']) h
  | (9, [a], o, _) => ∀ z' : Int, z' = xop1 o (xe ρ a) → ih 0 (ρ ++ [z']) h
  | (10, [a, b], o, m) => (xcmp o (xe ρ a) (xe ρ b) → ih 0 ρ h) ∧ (xcmp (xng o) (xe ρ a) (xe ρ b) → ih (Int.toNat m) ρ h)
  | (11, [a], _, _) => Q (xe ρ a) h
  | (12, as, k, _) => I k (xes ρ as) h
  | (13, as, j, _) => ∀ (v : Int) (h' : fH), fS j (xes ρ as) h v h' → ih 0 (ρ ++ [v]) h'
  | _ => True
noncomputable def xd (I : Nat → List Int → fH → Prop) (Q : Int → fH → Prop) (T : xT) : Nat → List Int → fH → Prop := List.rec (motive := fun _ => Nat → List Int → fH → Prop) (fun _ _ _ => True) (fun nd _ ih s ρ h => Nat.rec (motive := fun _ => Prop) (xnd I Q nd ih ρ h) (fun m _ => ih m ρ h) s) T
-- the check
noncomputable def xob (a b : xO) : Bool := match a with
  | .inl i => match b with
    | .inl j => Nat.beq i j
    | .inr _ => false
  | .inr y => match b with
    | .inl _ => false
    | .inr z => t_eq y z
noncomputable def xobs (a b : List xO) : Bool := List.rec (motive := fun _ => List xO → Bool) (fun b => match b with | [] => true | _ :: _ => false) (fun x _ ih b => match b with
  | y :: b' => match xob x y with
    | true => ih b'
    | false => false
  | [] => false) a b
noncomputable def xnb (a b : xN) : Bool := match Nat.beq a.1 b.1 with
  | true => match xobs a.2.1 b.2.1 with
    | true => match Nat.beq a.2.2.1 b.2.2.1 with
      | true => t_eq a.2.2.2 b.2.2.2
      | false => false
    | false => false
  | false => false
noncomputable abbrev xV : Type := Nat × xO
noncomputable abbrev xL : Type := List (Option xV)
noncomputable abbrev xS : Type := List xV
noncomputable abbrev xK : Type := Nat → xL → xS → Nat → xT → Bool
noncomputable def x_em (nd : xN) (T : xT) (k : xT → Bool) : Bool := match T with
  | nd' :: T' => match xnb nd nd' with
    | true => k T'
    | false => false
  | [] => false
/-- a node that gives a name -/
noncomputable def x_ev (nd : xN) (lvl : Nat) (T : xT) (k : xO → Nat → xT → Bool) : Bool := x_em nd T (fun T' => t_fn lvl (fun l => k (.inl l) (Nat.succ l) T'))
noncomputable def x_ldv (A : xL) (j : Nat) (k : xV → Bool) : Bool := match t_nth A j with
  | some (some v) => k v
  | _ => false
noncomputable def x_st (A : xL) (j : Nat) (v : xV) (k : xL → Bool) : Bool := t_upd A j (some v) k
noncomputable def x_cc (op : ClassFile.Cond) : Nat := match op with
  | .eq => 0
  | .ne => 1
  | .lt => 2
  | .ge => 3
  | .gt => 4
  | .le => 5
noncomputable def x_cb (op : ClassFile.Cond) (a b : Int) : Bool := match op with
  | .eq => t_eq a b
  | .ne => match t_eq a b with | true => false | false => true
  | .lt => t_le (Int.add a 1) b
  | .ge => t_le b a
  | .gt => t_le (Int.add b 1) a
  | .le => t_le a b
/-- a branch -/
noncomputable def x_br (op : ClassFile.Cond) (x y : xO) (T : xT) (kt kf : xT → Bool) : Bool := match T with
  | [] => false
  | nd :: T' => match nd with
    | (10, [a, b], o, m) => match xob a x with
      | true => match xob b y with
        | true => match Nat.beq o (x_cc op) with
          | true => match kt T' with
            | true => kf (T'.drop (Int.toNat m))
            | false => false
          | false => false
        | false => false
      | false => false
    | _ => false
noncomputable def x_if (op : ClassFile.Cond) (x y : xO) (T : xT) (kt kf : xT → Bool) : Bool := match x with
  | .inr a => match y with
    | .inr b => match x_cb op a b with
      | true => kt T
      | false => kf T
    | .inl _ => x_br op x y T kt kf
  | .inl _ => x_br op x y T kt kf
noncomputable def x_go (pc : Nat) (off : Int) (k : Nat → Bool) : Bool := match zz_tg pc off with
  | some t => t_fn t k
  | none => false
noncomputable def x_bo (op : ClassFile.Cond) (off : Int) (pc : Nat) (x y : xO) (T : xT) (k : Nat → xT → Bool) : Bool := x_if op x y T (fun T1 => x_go pc off (fun t => k t T1)) (fun T2 => t_fn (Nat.add pc 3) (fun t => k t T2))
/-- a switch: the cases one behind the other -/
noncomputable def x_cs (pc : Nat) (x : xO) (d : Int) (ps : List (Int × Int)) (k : Nat → xT → Bool) (T : xT) : Bool := List.rec (motive := fun _ => xT → Bool) (fun T => x_go pc d (fun t => k t T)) (fun p _ ih T => x_if .eq x (.inr p.1) T (fun T1 => x_go pc p.2 (fun t => k t T1)) ih) ps T
noncomputable def x_off (lo : Int) (offs : List Int) : List (Int × Int) := List.rec (motive := fun _ => Int → List (Int × Int)) (fun _ => []) (fun o _ ih lo => (lo, o) :: ih (Int.add lo 1)) offs lo
noncomputable abbrev xX : Type := List Nat → Value → Nat → xL → xS → Nat → xT → xK → Bool
noncomputable def x_2 (o τ n : Nat) : xX := fun _ _ pc A st lvl T k => match st with
  | (_, y) :: (_, x) :: s => x_ev (8, [x, y], o, 0) lvl T (fun v l T' => t_fn (Nat.add pc n) (fun pc' => k pc' A ((τ, v) :: s) l T'))
  | _ => false
noncomputable def x_1 (o τ : Nat) : xX := fun _ _ pc A st lvl T k => match st with
  | (_, x) :: s => x_ev (9, [x], o, 0) lvl T (fun v l T' => t_fn (Nat.add pc 1) (fun pc' => k pc' A ((τ, v) :: s) l T'))
  | _ => false
noncomputable def x_con (τ n : Nat) (z : Int) : xX := fun _ _ pc A st lvl T k => t_fi z (fun z => t_fn (Nat.add pc n) (fun pc' => k pc' A ((τ, .inr z) :: st) lvl T))
noncomputable def x_lod (j n : Nat) : xX := fun _ _ pc A st lvl T k => x_ldv A j (fun v => t_fn (Nat.add pc n) (fun pc' => k pc' A (v :: st) lvl T))
noncomputable def x_sto (j n : Nat) : xX := fun _ _ pc A st lvl T k => match st with
  | v :: s => x_st A j v (fun A' => t_fn (Nat.add pc n) (fun pc' => k pc' A' s lvl T))
  | _ => false
noncomputable def x_getf : xX := fun r _ pc A st lvl T k => match r with
  | [ci, f, _] => match st with
    | (_, o) :: s => match f_fnd ci f with
      | some (ab, z, τ) => match ab with
        | true => t_fi z (fun z => t_fn (Nat.add pc 3) (fun pc' => k pc' A ((τ, .inr z) :: s) lvl T))
        | false => match o with
          | .inr y => t_fi (Int.add y z) (fun z => t_fn (Nat.add pc 3) (fun pc' => k pc' A ((τ, .inr z) :: s) lvl T))
          | .inl _ => x_ev (4, [o], 0, z) lvl T (fun v l T' => t_fn (Nat.add pc 3) (fun pc' => k pc' A ((τ, v) :: s) l T'))
      | none => x_ev (0, [o], f, 0) lvl T (fun v l T' => t_fn (Nat.add pc 3) (fun pc' => k pc' A ((0, v) :: s) l T'))
    | _ => false
  | _ => false
noncomputable def x_putf : xX := fun r _ pc A st lvl T k => match r with
  | [ci, f, _, tc] => match st with
    | (_, v) :: (_, o) :: s => match f_fnd ci f with
      | some _ => false
      | none => match Nat.beq tc 3 with
        | true => false
        | false => x_em (2, [o, v], f, 0) T (fun T' => t_fn (Nat.add pc 3) (fun pc' => k pc' A s lvl T'))
    | _ => false
  | _ => false
noncomputable def x_ald : xX := fun _ _ pc A st lvl T k => match st with
  | (_, i) :: (τ, a) :: s => match τ with
    | t + 2 => match f_arr t with
      | some m => x_ev (5, [a, i], 0, m) lvl T (fun v l T' => t_fn (Nat.add pc 1) (fun pc' => k pc' A ((0, v) :: s) l T'))
      | none => x_ev (1, [a, i], 0, 0) lvl T (fun v l T' => t_fn (Nat.add pc 1) (fun pc' => k pc' A ((0, v) :: s) l T'))
    | _ => false
  | _ => false
noncomputable def x_na : xX := fun r v0 pc A st lvl T k => match r with
  | [a, _, _, _, _] => match a with
    | 10 => x_2 11 0 3 r v0 pc A st lvl T k
    | 11 => x_2 12 0 3 r v0 pc A st lvl T k
    | 12 => match st with
      | (_, n) :: _ :: (_, j) :: _ :: (_, i) :: s => x_em (7, [i, j, n], 0, 0) T (fun T' => t_fn (Nat.add pc 3) (fun pc' => k pc' A s lvl T'))
      | _ => false
    | _ => false
  | _ => false
noncomputable def x_ar (ins : Instr) : Option (Nat × Nat) := match ins with
  | .iadd => some (0, 0)
  | .isub => some (1, 0)
  | .imul => some (2, 0)
  | .iand => some (3, 0)
  | .ior => some (4, 0)
  | .ixor => some (5, 0)
  | .ishl => some (6, 0)
  | .ishr => some (7, 0)
  | .iushr => some (8, 0)
  | .idiv => some (9, 0)
  | .irem => some (10, 0)
  | .ladd => some (13, 1)
  | .lsub => some (14, 1)
  | .lmul => some (15, 1)
  | .ldiv => some (16, 1)
  | .lrem => some (17, 1)
  | .lcmp => some (18, 0)
  | _ => none
noncomputable def x_op (ins : Instr) : Option xX := match ins with
  | .iconst n => match t_in n n with
    | true => some (x_con 0 1 n)
    | false => none
  | .bipush n => some (x_con 0 2 (Int8.ofInt n).toInt32.toInt)
  | .sipush n => some (x_con 0 3 (Int16.ofInt n).toInt32.toInt)
  | .ldc_w _ => some (fun r v0 pc A st lvl T k => match v0 with
    | .int x => x_con 0 3 x.toInt r v0 pc A st lvl T k
    | _ => false)
  | .lconst n => some (x_con 1 1 (Int.ofNat (n : Nat)))
  | .ldc2_w _ => some (fun r v0 pc A st lvl T k => match v0 with
    | .long x => x_con 1 3 x.toInt r v0 pc A st lvl T k
    | _ => false)
  | .iload_n j => some (x_lod j 1)
  | .iload j => some (x_lod j 2)
  | .lload_n j => some (x_lod j 1)
  | .lload j => some (x_lod j 2)
  | .aload_n j => some (x_lod j 1)
  | .aload j => some (x_lod j 2)
  | .istore_n j => some (x_sto j 1)
  | .istore j => some (x_sto j 2)
  | .lstore_n j => some (x_sto j 1)
  | .lstore j => some (x_sto j 2)
  | .astore_n j => some (x_sto j 1)
  | .astore j => some (x_sto j 2)
  | .iinc j n => match t_in n n with
    | true => some (fun _ _ pc A st lvl T k => x_ldv A j (fun v => x_ev (8, [v.2, .inr n], 0, 0) lvl T (fun w l T' => x_st A j (0, w) (fun A' => t_fn (Nat.add pc 3) (fun pc' => k pc' A' st l T')))))
    | false => none
  | .ineg => some (x_1 0 0)
  | .l2i => some (x_1 1 0)
  | .i2l => some (fun _ _ pc A st lvl T k => match st with
    | (_, x) :: s => t_fn (Nat.add pc 1) (fun pc' => k pc' A ((1, x) :: s) lvl T)
    | _ => false)
  | .dup => some (fun _ _ pc A st lvl T k => match st with
    | v :: s => t_fn (Nat.add pc 1) (fun pc' => k pc' A (v :: v :: s) lvl T)
    | _ => false)
  | .dup2 => some (fun _ _ pc A st lvl T k => match st with
    | v :: w :: s => t_fn (Nat.add pc 1) (fun pc' => k pc' A (v :: w :: v :: w :: s) lvl T)
    | _ => false)
  | .pop => some (fun _ _ pc A st lvl T k => match st with
    | _ :: s => t_fn (Nat.add pc 1) (fun pc' => k pc' A s lvl T)
    | _ => false)
  | .goto off => some (fun _ _ pc A st lvl T k => x_go pc off (fun t => k t A st lvl T))
  | .ifCond op off => some (fun _ _ pc A st lvl T k => match st with
    | (_, x) :: s => x_bo op off pc x (.inr 0) T (fun t T' => k t A s lvl T')
    | _ => false)
  | .if_icmp op off => some (fun _ _ pc A st lvl T k => match st with
    | (_, y) :: (_, x) :: s => x_bo op off pc x y T (fun t T' => k t A s lvl T')
    | _ => false)
  | .tableswitch d lo hi offs => some (fun _ _ pc A st lvl T k => match st with
    | (_, x) :: s => match t_eq (Int.sub hi lo) (Int.sub (Int.ofNat (t_len offs.toList)) 1) with
      | true => x_cs pc x d (x_off lo offs.toList) (fun t T' => k t A s lvl T') T
      | false => false
    | _ => false)
  | .lookupswitch d ps => some (fun _ _ pc A st lvl T k => match st with
    | (_, x) :: s => x_cs pc x d ps.toList (fun t T' => k t A s lvl T') T
    | _ => false)
  | .getfield _ => some x_getf
  | .putfield _ => some x_putf
  | .iaload => some (fun _ _ pc A st lvl T k => match st with
    | (_, i) :: (_, a) :: s => x_ev (1, [a, i], 0, 0) lvl T (fun v l T' => t_fn (Nat.add pc 1) (fun pc' => k pc' A ((0, v) :: s) l T'))
    | _ => false)
  | .iastore => some (fun _ _ pc A st lvl T k => match st with
    | (_, v) :: (_, i) :: (_, a) :: s => x_em (3, [a, i, v], 0, 0) T (fun T' => t_fn (Nat.add pc 1) (fun pc' => k pc' A s lvl T'))
    | _ => false)
  | .aaload => some x_ald
  | .aastore => some (fun r _ pc A st lvl T k => match r with
    | [t, _, _] => match f_arr t with
      | some _ => false
      | none => match st with
        | (_, v) :: (_, i) :: (_, a) :: s => x_em (3, [a, i, v], 0, 0) T (fun T' => t_fn (Nat.add pc 1) (fun pc' => k pc' A s lvl T'))
        | _ => false
    | _ => false)
  | .arraylength => some (fun _ _ pc A st lvl T k => match st with
    | (_, a) :: s => x_ev (6, [a], 0, 0) lvl T (fun v l T' => t_fn (Nat.add pc 1) (fun pc' => k pc' A ((0, v) :: s) l T'))
    | _ => false)
  | _ => match x_ar ins with
    | some (o, τ) => some (x_2 o τ 1)
    | none => none
-- calls
noncomputable abbrev xQ : Type := Option xV → Nat → xT → Bool
noncomputable abbrev xHd : Type := List (Nat × List (Nat × Nat))
noncomputable abbrev xH : Type := xHd → zz_Mi → Nat → xL → xS → Nat → xT → xQ → Bool
noncomputable def x_spl (n : Nat) (st acc : xS) (k : xS → xS → Bool) : Bool := Nat.rec (motive := fun _ => xS → xS → (xS → xS → Bool) → Bool) (fun st acc k => k acc st) (fun _ ih st acc k => match st with
  | v :: s => ih s (v :: acc) k
  | [] => false) n st acc k
noncomputable def x_ent (args : xS) (n : Nat) : xL := List.rec (motive := fun _ => Nat → xL) (fun n => Nat.rec (motive := fun _ => xL) [] (fun _ ih => none :: ih) n) (fun v _ ih n => match v.1 with
  | 1 => some v :: none :: ih (Nat.pred (Nat.pred n))
  | _ => some v :: ih (Nat.pred n)) args n
noncomputable def x_tgs (ts : List Nat) (args : xS) : Bool := List.rec (motive := fun _ => xS → Bool) (fun a => match a with | [] => true | _ :: _ => false) (fun t _ ih a => match a with
  | v :: s => match Nat.beq t v.1 with
    | true => ih s
    | false => match Nat.beq t 0 with
      | true => match Nat.ble 2 v.1 with
        | true => ih s
        | false => false
      | false => false
  | [] => false) ts args
noncomputable def x_ops (args : xS) : List xO := List.rec (motive := fun _ => List xO) [] (fun v _ ih => v.2 :: ih) args
noncomputable def x_rvl (v : Option xV) (s : xS) : xS := match v with
  | some v => v :: s
  | none => s
/-- a call of method k: by its runs (a node), or on the spot -/
noncomputable def x_cal (ih : xH) (hd : xHd) (mi : zz_Mi) (k pc : Nat) (A : xL) (st : xS) (lvl : Nat) (T : xT) (K : xQ) : Bool := match t_nth zz_mts k with
  | none => false
  | some mj => match f_ok k with
    | false => false
    | true => x_spl (zz_cn mj) st [] (fun args rest => match T with
      | [] => false
      | nd :: T' => match t_and (Nat.beq nd.1 13) (Nat.beq nd.2.2.1 k) with
        | true => match t_nth f_tags k with
          | none => false
          | some ts => match t_and (x_tgs ts args) (xobs nd.2.1 (x_ops args)) with
            | true => t_fn lvl (fun l => t_fn (Nat.add pc 3) (fun pc' => match f_rtg mj.2.2.2.1 with
              | none => ih hd mi pc' A rest (Nat.succ l) T' K
              | some τ => ih hd mi pc' A ((τ, .inl l) :: rest) (Nat.succ l) T' K))
            | false => false
        | false => ih [] mj 0 (x_ent args mj.2.2.1) [] lvl T (fun ret l T2 => t_fn (Nat.add pc 3) (fun pc' => ih hd mi pc' A (x_rvl ret rest) l T2 K)))
/-- the kinds: class c of these is cell 4 + c alone -/
noncomputable def x_pol (ih : Nat → xT → Bool) (o : xO) (alts : List Nat) (n : Nat) (T : xT) : Bool := Nat.rec (motive := fun _ => List Nat → xT → Bool) (fun _ _ => false) (fun _ rc alts T => match alts with
  | [] => match T with
    | (14, _, _, _) :: _ => true
    | _ => false
  | c :: k :: _ :: r => match t_and (Nat.ble 1 c) (Nat.ble c 6) with
    | true => x_if .eq o (.inr (Int.ofNat (Nat.add 4 c))) T (ih k) (rc r)
    | false => false
  | _ => false) n alts T
noncomputable def x_inv (ih : xH) (hd : xHd) (mi : zz_Mi) (ins : Instr) (r : List Nat) (pc : Nat) (A : xL) (st : xS) (lvl : Nat) (T : xT) (K : xQ) : Bool := match ins with
  | .invokestatic _ => match r with
    | [3, k, _] => x_cal ih hd mi k pc A st lvl T K
    | [4, k, _] => x_cal ih hd mi k pc A st lvl T K
    | _ => false
  | .invokespecial _ => match r with
    | [9, k, _, _, _, _, _] => x_cal ih hd mi k pc A st lvl T K
    | [7, k, _, _, _] => x_cal ih hd mi k pc A st lvl T K
    | _ => false
  | .invokevirtual _ => match r with
    | [1, k, _, _, _] => x_cal ih hd mi k pc A st lvl T K
    | [2, k, _, _, _] => x_cal ih hd mi k pc A st lvl T K
    | 8 :: k :: _ :: _ :: alts => match t_nth zz_mts k with
      | some mx => match t_nth st mx.2.2.2.2.1 with
        | some (_, o) => x_pol (fun k' T' => x_cal ih hd mi k' pc A st lvl T' K) o alts (Nat.succ (t_len alts)) T
        | none => false
      | none => false
    | _ => false
  | _ => false
noncomputable def x_ret (ins : Instr) (st : xS) (lvl : Nat) (T : xT) (K : xQ) (dflt : Bool) : Bool := match ins with
  | .ireturn => match st with
    | [v] => K (some v) lvl T
    | _ => false
  | .lreturn => match st with
    | [v] => K (some v) lvl T
    | _ => false
  | .return_ => match st with
    | [] => K none lvl T
    | _ => false
  | _ => dflt
noncomputable def x_body (ih : xH) (hd : xHd) (mi : zz_Mi) (pc : Nat) (A : xL) (st : xS) (lvl : Nat) (T : xT) (K : xQ) : Bool := match t_fetch mi.2.2.2.2.2.2.2.2 pc with
  | none => false
  | some (_, ins, _, r, v0) => match ins with
    | .invokestatic _ => match r with
      | [_, _, _, _, _] => x_na r v0 pc A st lvl T (fun pc' A' st' l T' => ih hd mi pc' A' st' l T' K)
      | _ => x_inv ih hd mi ins r pc A st lvl T K
    | _ => match x_op ins with
      | some f => f r v0 pc A st lvl T (fun pc' A' st' l T' => ih hd mi pc' A' st' l T' K)
      | none => x_ret ins st lvl T K (x_inv ih hd mi ins r pc A st lvl T K)
noncomputable def x_live (A : xL) (lv : List (Nat × Nat)) (as : List xO) : Bool := List.rec (motive := fun _ => List xO → Bool) (fun as => match as with | [] => true | _ :: _ => false) (fun q _ ih as => match as with
  | o :: as' => match t_nth A q.1 with
    | some (some (τ, o')) => match t_and (xob o' o) (match Nat.beq τ q.2 with
      | true => true
      | false => t_and (Nat.beq q.2 0) (Nat.ble 2 τ)) with
      | true => ih as'
      | false => false
    | _ => false
  | [] => false) lv as
/-- the first head at a place -/
noncomputable def x_hd (hd : xHd) (pc : Nat) : Bool := t_any (fun e => Nat.beq e.1 pc) hd
noncomputable def x_jmp (hd : xHd) (mi : zz_Mi) (pc : Nat) (A : xL) (st : xS) (T : xT) : Bool := match st with
  | [] => match T with
    | (12, as, i, _) :: _ => match t_nth hd i with
      | some (p, lv) => t_and (Nat.beq p pc) (t_and (Nat.beq (t_len A) mi.2.2.1) (x_live A lv as))
      | none => false
    | _ => false
  | _ => false
noncomputable def xc (n : Nat) : xH := Nat.rec (motive := fun _ => xH) (fun _ _ _ _ _ _ _ _ => false) (fun _ ih hd mi pc A st lvl T K => match x_hd hd pc with
  | true => x_jmp hd mi pc A st T
  | false => x_body ih hd mi pc A st lvl T K) n
-- a method whole
noncomputable def x_K0 : xQ := fun ret _ T => match T with
  | (11, [a], _, _) :: _ => match ret with
    | some (_, o) => xob o a
    | none => xob (.inr 0) a
  | _ => false
noncomputable def x_a0 (ts : List Nat) : xS := List.rec (motive := fun _ => Nat → xS) (fun _ => []) (fun t _ ih i => t_fn i (fun i => (t, .inl i) :: ih (Nat.succ i))) ts 0
noncomputable def x_A0 (nL : Nat) (lv : List (Nat × Nat)) : xL := List.rec (motive := fun _ => Nat → xL → xL) (fun _ A => A) (fun q _ ih i A => t_fn i (fun i => ih (Nat.succ i) (A.set q.1 (some (q.2, .inl i))))) lv 0 (List.replicate nL none)
noncomputable def x_chk (j : Nat) (hd : xHd) (T : xT) (Ts : List xT) (n : Nat) : Bool := match t_nth zz_mts j with
  | none => false
  | some mi => match t_nth f_tags j with
    | none => false
    | some ts => t_and (t_and (f_ok j) (Nat.beq (t_len hd) (t_len Ts))) (t_and (xc n hd mi 0 (x_ent (x_a0 ts) mi.2.2.1) [] (t_len ts) T x_K0) (t_all (fun e => x_body (xc n) hd mi e.1.1 (x_A0 mi.2.2.1 e.1.2) [] (t_len e.1.2) e.2 x_K0) (hd.zip Ts)))
end
section
/-! the check of trees is sound: operands, single instructions -/
noncomputable def xl (ρ : List Int) (o : xO) (z : Int) : Prop := match o with
  | .inl i => ρ[i]? = some z
  | .inr y => y = z
noncomputable def xr (ρ : List Int) (q : xV) (u : Value) : Prop := xl ρ q.2 (fv u) ∧ xtB q.1 u
noncomputable def xRS (ρ : List Int) : xS → List Value → Prop
  | [], [] => True
  | q :: s, u :: t => xr ρ q u ∧ xRS ρ s t
  | _, _ => False
noncomputable def xRL (ρ : List Int) (A : xL) (L : List (Option Value)) : Prop := A.length = L.length ∧ ∀ i u, zz_ld L i = some u → ∃ q, A[i]? = some q ∧ ∀ q', q = some q' → xr ρ q' u
section XS1
variable {ρ ρ2 : List Int} {I : Nat → List Int → fH → Prop} {Q : Int → fH → Prop} {T : xT} {h : fH} {A : xL} {L : List (Option Value)} {st : xS} {t : List Value} {cs : zz_W} {pc p len lvl cu su : Nat} {r : List Nat} {v0 : Value} {k : xK} {σ' : zz_S} {q : Nat × Nat × Nat × Nat}
theorem xg_of : ∀ {ρ : List Int} {i : Nat} {z : Int}, ρ[i]? = some z → xg ρ i = z
  | [], i, z, h => by cases h
  | a :: ρ, 0, z, h => by
    simp only [List.getElem?_cons_zero, Option.some.injEq] at h
    exact h
  | a :: ρ, i + 1, z, h => by
    show xg ρ i = z
    exact xg_of (ρ := ρ) (i := i) h
theorem xe_of {o : xO} {z : Int} (h : xl ρ o z) : xe ρ o = z := by
  match o, h with
  | .inl i, h => exact xg_of h
  | .inr y, h => exact h
theorem xl_ext {o : xO} {z : Int} (h : xl ρ o z) : xl (ρ ++ ρ2) o z := by
  match o, h with
  | .inl i, h =>
    show (ρ ++ ρ2)[i]? = some z
    rw [List.getElem?_append_left (List.getElem?_eq_some_iff.mp h).1]
    exact h
  | .inr y, h => exact h
theorem xr_ext {v : xV} {u : Value} (h : xr ρ v u) : xr (ρ ++ ρ2) v u := ⟨xl_ext h.1, h.2⟩
theorem xl_new (z : Int) : xl (ρ ++ [z]) (.inl ρ.length) z := by
  show (ρ ++ [z])[ρ.length]? = some z
  simp
theorem xRS_ext : ∀ {s : xS} {t : List Value}, xRS ρ s t → xRS (ρ ++ ρ2) s t
  | [], [], _ => trivial
  | _ :: _, _ :: _, h => ⟨xr_ext h.1, xRS_ext h.2⟩
theorem xRL_ext (h : xRL ρ A L) : xRL (ρ ++ ρ2) A L := ⟨h.1, fun i u hi => by
  obtain ⟨q, h1, h2⟩ := h.2 i u hi
  exact ⟨q, h1, fun q' hq => xr_ext (h2 q' hq)⟩⟩
theorem xRS_cons {v : xV} {s : xS} {t : List Value} (h : xRS ρ (v :: s) t) : ∃ u t', t = u :: t' ∧ xr ρ v u ∧ xRS ρ s t' := by
  match t, h with
  | u :: t', h => exact ⟨u, t', rfl, h.1, h.2⟩
theorem xd_skip : ∀ {m : Nat} {T : xT}, xd I Q T m ρ h → xd I Q (T.drop m) 0 ρ h
  | 0, T, hd => by
    rw [List.drop_zero]
    exact hd
  | m + 1, [], hd => trivial
  | m + 1, nd :: T, hd => by
    have hd : xd I Q T m ρ h := hd
    exact xd_skip (m := m) (T := T) hd
theorem xob_ok {a b : xO} (h : xob a b = true) : a = b := by
  match a, b, h with
  | .inl i, .inl j, h => exact congrArg _ (Nat.eq_of_beq_eq_true h)
  | .inr i, .inr j, h => exact congrArg _ (t_eq_iff.mp h)
theorem xobs_ok : ∀ {a b : List xO}, xobs a b = true → a = b
  | [], [], _ => rfl
  | [], _ :: _, h => by cases h
  | _ :: _, [], h => by cases h
  | x :: a, y :: b, h => by
    obtain ⟨h1, h2⟩ := t_bool (b := xob x y) (c := xobs a b) h
    rw [xob_ok h1, xobs_ok h2]
theorem xnb_ok {a b : xN} (h : xnb a b = true) : a = b := by
  unfold xnb at h
  obtain ⟨h1, h⟩ := t_bool h
  obtain ⟨h2, h⟩ := t_bool h
  obtain ⟨h3, h⟩ := t_bool h
  obtain ⟨a1, a2, a3, a4⟩ := a
  obtain ⟨b1, b2, b3, b4⟩ := b
  have e1 := Nat.eq_of_beq_eq_true h1
  have e2 := xobs_ok h2
  have e3 := Nat.eq_of_beq_eq_true h3
  have e4 := t_eq_iff.mp h
  dsimp only at e1 e2 e3 e4
  rw [e1, e2, e3, e4]
theorem x_em_ok {nd : xN} {kk : xT → Bool} (h : x_em nd T kk = true) : ∃ T', T = nd :: T' ∧ kk T' = true := by
  unfold x_em at h
  split at h
  · obtain ⟨h1, h2⟩ := t_bool h
    rw [xnb_ok h1]
    exact ⟨_, rfl, h2⟩
  · cases h
theorem x_ev_ok {nd : xN} {kk : xO → Nat → xT → Bool} (h : x_ev nd lvl T kk = true) : ∃ T', T = nd :: T' ∧ kk (.inl lvl) (lvl + 1) T' = true := by
  obtain ⟨T', h1, h2⟩ := x_em_ok h
  rw [t_fn_eq] at h2
  exact ⟨T', h1, h2⟩
-- what a step comes to
noncomputable def xNx (k : xK) (I : Nat → List Int → fH → Prop) (Q : Int → fH → Prop) (ρ : List Int) (cu su : Nat) (σ' : zz_S) : Prop := ∃ ρ2 pc' A' st' T' L' t' cs', σ' = (pc', L', t', cs', cu, su) ∧ k pc' A' st' (ρ ++ ρ2).length T' = true ∧ xRL (ρ ++ ρ2) A' L' ∧ xRS (ρ ++ ρ2) st' t' ∧ fFX cs' ∧ xd I Q T' 0 (ρ ++ ρ2) (fh cs')
theorem xNx_0 {pc' : Nat} {A' : xL} {st' : xS} {T' : xT} {L' : List (Option Value)} {t' : List Value} {cs' : zz_W} (hk : k pc' A' st' lvl T' = true) (hl : ρ.length = lvl) (hA : xRL ρ A' L') (hS : xRS ρ st' t') (hF : fFX cs') (hd : xd I Q T' 0 ρ (fh cs')) : xNx k I Q ρ cu su (pc', L', t', cs', cu, su) := by
  refine ⟨[], pc', A', st', T', L', t', cs', rfl, ?_⟩
  rw [List.append_nil]
  exact ⟨by rw [hl]; exact hk, hA, hS, hF, hd⟩
theorem xNx_1 {pc' : Nat} {A' : xL} {st' : xS} {T' : xT} {L' : List (Option Value)} {t' : List Value} {cs' : zz_W} {z : Int} (hk : k pc' A' st' (lvl + 1) T' = true) (hl : ρ.length = lvl) (hA : xRL (ρ ++ [z]) A' L') (hS : xRS (ρ ++ [z]) st' t') (hF : fFX cs') (hd : xd I Q T' 0 (ρ ++ [z]) (fh cs')) : xNx k I Q ρ cu su (pc', L', t', cs', cu, su) :=
  ⟨[z], pc', A', st', T', L', t', cs', rfl, by rw [List.length_append, hl]; exact hk, hA, hS, hF, hd⟩
theorem x_pure {ins : Instr} (hone : zz_one q (p, ins, len, r, v0) (pc, L, t, cs, cu, su) = some σ') (hdb : zz_db ins r v0 pc L t cs = none) (hal : zz_al ins r q.1 q.2.1 pc L t cs cu su = none) (hna : zz_na ins r q.2.2.1 q.2.2.2 pc L t cs = none) : ∃ pc' L' t', zz_da ins pc L t = some (pc', L', t') ∧ σ' = (pc', L', t', cs, cu, su) := by
  simp only [zz_one] at hone
  split at hone
  · rename_i pc' L' t' h1
    cases hone
    exact ⟨pc', L', t', h1, rfl⟩
  · rw [hdb] at hone
    dsimp only at hone
    rw [hal] at hone
    dsimp only at hone
    rw [hna] at hone
    cases hone
theorem x_heap {ins : Instr} (hone : zz_one q (p, ins, len, r, v0) (pc, L, t, cs, cu, su) = some σ') (hda : zz_da ins pc L t = none) (hal : zz_al ins r q.1 q.2.1 pc L t cs cu su = none) (hna : zz_na ins r q.2.2.1 q.2.2.2 pc L t cs = none) : ∃ pc' L' t' cs', zz_db ins r v0 pc L t cs = some (pc', L', t', cs') ∧ σ' = (pc', L', t', cs', cu, su) := by
  simp only [zz_one] at hone
  rw [hda] at hone
  dsimp only at hone
  split at hone
  · rename_i pc' L' t' cs' h1
    cases hone
    exact ⟨pc', L', t', cs', h1, rfl⟩
  · rw [hal] at hone
    dsimp only at hone
    rw [hna] at hone
    cases hone
-- arithmetic
theorem x_2_ok {o τ n : Nat} (h : x_2 o τ n r v0 pc A st lvl T k = true) (hl : ρ.length = lvl) (hA : xRL ρ A L) (hS : xRS ρ st t) (hF : fFX cs) (hd : xd I Q T 0 ρ (fh cs)) (hz : ∀ a b t', t = b :: a :: t' → ∃ w, σ' = (pc + n, L, w :: t', cs, cu, su) ∧ xtB τ w ∧ fv w = xop2 o (fv a) (fv b)) : xNx k I Q ρ cu su σ' := by
  unfold x_2 at h
  split at h
  · rename_i τ1 y τ2 x s
    obtain ⟨b, t1, rfl, hb, hS1⟩ := xRS_cons hS
    obtain ⟨a, t2, rfl, ha, hS2⟩ := xRS_cons hS1
    obtain ⟨w, rfl, hw, hv⟩ := hz a b t2 rfl
    obtain ⟨T', rfl, h2⟩ := x_ev_ok h
    rw [t_fn_eq] at h2
    have hd : xd I Q T' 0 (ρ ++ [xop2 o (xe ρ x) (xe ρ y)]) (fh cs) := hd _ rfl
    rw [xe_of ha.1, xe_of hb.1, ← hv] at hd
    exact xNx_1 h2 hl (xRL_ext hA) ⟨⟨by rw [← hl]; exact xl_new _, hw⟩, xRS_ext hS2⟩ hF hd
  · cases h
theorem x_1_ok {o τ : Nat} (h : x_1 o τ r v0 pc A st lvl T k = true) (hl : ρ.length = lvl) (hA : xRL ρ A L) (hS : xRS ρ st t) (hF : fFX cs) (hd : xd I Q T 0 ρ (fh cs)) (hz : ∀ a t', t = a :: t' → ∃ w, σ' = (pc + 1, L, w :: t', cs, cu, su) ∧ xtB τ w ∧ fv w = xop1 o (fv a)) : xNx k I Q ρ cu su σ' := by
  unfold x_1 at h
  split at h
  · rename_i τ2 x s
    obtain ⟨a, t2, rfl, ha, hS2⟩ := xRS_cons hS
    obtain ⟨w, rfl, hw, hv⟩ := hz a t2 rfl
    obtain ⟨T', rfl, h2⟩ := x_ev_ok h
    rw [t_fn_eq] at h2
    have hd : xd I Q T' 0 (ρ ++ [xop1 o (xe ρ x)]) (fh cs) := hd _ rfl
    rw [xe_of ha.1, ← hv] at hd
    exact xNx_1 h2 hl (xRL_ext hA) ⟨⟨by rw [← hl]; exact xl_new _, hw⟩, xRS_ext hS2⟩ hF hd
  · cases h
theorem x_con_ok {τ n : Nat} {z : Int} {w : Value} (h : x_con τ n z r v0 pc A st lvl T k = true) (hl : ρ.length = lvl) (hA : xRL ρ A L) (hS : xRS ρ st t) (hF : fFX cs) (hd : xd I Q T 0 ρ (fh cs)) (hσ : σ' = (pc + n, L, w :: t, cs, cu, su)) (hw : fv w = z) (ht : xtB τ w) : xNx k I Q ρ cu su σ' := by
  unfold x_con at h
  rw [t_fi_eq, t_fn_eq] at h
  rw [hσ]
  exact xNx_0 h hl hA ⟨⟨hw.symm, ht⟩, hS⟩ hF hd
theorem x_lod_ok {j n : Nat} (h : x_lod j n r v0 pc A st lvl T k = true) (hl : ρ.length = lvl) (hA : xRL ρ A L) (hS : xRS ρ st t) (hF : fFX cs) (hd : xd I Q T 0 ρ (fh cs)) (hz : ∃ w, zz_ld L j = some w ∧ σ' = (pc + n, L, w :: t, cs, cu, su)) : xNx k I Q ρ cu su σ' := by
  unfold x_lod x_ldv at h
  rw [t_nth_eq] at h
  obtain ⟨w, h1, rfl⟩ := hz
  obtain ⟨y, h2, h3⟩ := hA.2 j w h1
  rw [h2] at h
  split at h
  · rename_i v hv
    cases hv
    dsimp only at h
    rw [t_fn_eq] at h
    exact xNx_0 h hl hA ⟨h3 v rfl, hS⟩ hF hd
  · cases h
theorem x_ld_set {L : List (Option Value)} {i j : Nat} {w : Option Value} {u : Value} (h : zz_ld (L.set j w) i = some u) : (i = j ∧ w = some u) ∨ (i ≠ j ∧ zz_ld L i = some u) := by
  unfold zz_ld at h ⊢
  rw [List.getElem?_set] at h
  by_cases hij : j = i
  · subst hij
    rw [if_pos rfl] at h
    by_cases hl : j < L.length
    · rw [if_pos hl] at h
      left
      refine ⟨rfl, ?_⟩
      split at h
      · rename_i y hy
        cases hy
        cases h
        rfl
      · cases h
    · rw [if_neg hl] at h
      cases h
  · rw [if_neg hij] at h
    exact Or.inr ⟨fun e => hij e.symm, h⟩
theorem x_cl_ld {L : List (Option Value)} {i j : Nat} {u : Value} (h : zz_ld (zz_cl L j) i = some u) : zz_ld L i = some u := by
  unfold zz_cl at h
  split at h
  · exact h
  · split at h
    · split at h
      · rcases x_ld_set h with q | q
        · cases q.2
        · exact q.2
      · exact h
    · exact h
theorem x_cl_len {L : List (Option Value)} {j : Nat} : (zz_cl L j).length = L.length := by
  unfold zz_cl
  split
  · rfl
  · split
    · split
      · rw [List.length_set]
      · rfl
    · rfl
theorem x_sv_ld {L : List (Option Value)} {i j : Nat} {w u : Value} (h : zz_ld (zz_sv L j w) i = some u) : (i = j ∧ w = u) ∨ (i ≠ j ∧ zz_ld L i = some u) := by
  unfold zz_sv at h
  split at h
  · rcases x_ld_set h with q | q
    · cases q.2
    · rcases x_ld_set q.2 with s | s
      · exact Or.inl ⟨s.1, Option.some.inj s.2⟩
      · exact Or.inr ⟨s.1, x_cl_ld s.2⟩
  · rcases x_ld_set h with s | s
    · exact Or.inl ⟨s.1, Option.some.inj s.2⟩
    · exact Or.inr ⟨s.1, x_cl_ld s.2⟩
theorem x_sv_len {L : List (Option Value)} {j : Nat} {w : Value} : (zz_sv L j w).length = L.length := by
  unfold zz_sv
  split
  · rw [List.length_set, List.length_set, x_cl_len]
  · rw [List.length_set, x_cl_len]
theorem xRL_sv {j : Nat} {w : Value} {v : xV} (hA : xRL ρ A L) (hw : xr ρ v w) (hj : j < L.length) : xRL ρ (A.set j (some v)) (zz_sv L j w) := by
  refine ⟨by rw [List.length_set, x_sv_len]; exact hA.1, fun i u hi => ?_⟩
  rcases x_sv_ld hi with s | s
  · obtain ⟨rfl, rfl⟩ := s
    refine ⟨some v, ?_, fun q' hq => by cases hq; exact hw⟩
    rw [List.getElem?_set, if_pos rfl, if_pos (by rw [hA.1]; exact hj)]
  · obtain ⟨y, h1, h2⟩ := hA.2 i u s.2
    refine ⟨y, ?_, h2⟩
    rw [List.getElem?_set, if_neg (fun e => s.1 e.symm)]
    exact h1
theorem x_sto_ok {j n : Nat} (h : x_sto j n r v0 pc A st lvl T k = true) (hl : ρ.length = lvl) (hA : xRL ρ A L) (hS : xRS ρ st t) (hF : fFX cs) (hd : xd I Q T 0 ρ (fh cs)) (hz : ∃ w t', t = w :: t' ∧ j < L.length ∧ σ' = (pc + n, zz_sv L j w, t', cs, cu, su)) : xNx k I Q ρ cu su σ' := by
  unfold x_sto at h
  split at h
  · rename_i v s
    obtain ⟨w, t', h1, h2, rfl⟩ := hz
    obtain ⟨u, t2, h3, h4, h5⟩ := xRS_cons hS
    rw [h1] at h3
    cases h3
    unfold x_st at h
    rw [t_upd_eq, t_fn_eq] at h
    exact xNx_0 h hl (xRL_sv hA h4 h2) h5 hF hd
  · cases h
theorem x_pi_inv {n : Nat} {v : Option Value} {pc' : Nat} {L' : List (Option Value)} {t' : List Value} (h : zz_pi n L v t = some (pc', L', t')) : ∃ w, v = some w ∧ pc' = n ∧ L' = L ∧ t' = w :: t := by
  unfold zz_pi at h
  split at h
  · cases h
    exact ⟨_, rfl, rfl, rfl, rfl⟩
  · cases h
theorem x_pl_inv {n : Nat} {v : Option Value} {pc' : Nat} {L' : List (Option Value)} {t' : List Value} (h : zz_pl n L v t = some (pc', L', t')) : ∃ w, v = some w ∧ pc' = n ∧ L' = L ∧ t' = w :: t := by
  unfold zz_pl at h
  split at h
  · cases h
    exact ⟨_, rfl, rfl, rfl, rfl⟩
  · cases h
theorem x_pr_inv {n : Nat} {v : Option Value} {pc' : Nat} {L' : List (Option Value)} {t' : List Value} (h : zz_pr n L v t = some (pc', L', t')) : ∃ w, v = some w ∧ pc' = n ∧ L' = L ∧ t' = w :: t := by
  unfold zz_pr at h
  split at h
  · cases h
    exact ⟨_, rfl, rfl, rfl, rfl⟩
  · cases h
theorem x_si_inv {n j : Nat} {pc' : Nat} {L' : List (Option Value)} {t' : List Value} (h : zz_si n L j t = some (pc', L', t')) : ∃ w, t = w :: t' ∧ j < L.length ∧ pc' = n ∧ L' = zz_sv L j w := by
  unfold zz_si at h
  split at h
  · split at h
    · cases h
      exact ⟨_, rfl, by assumption, rfl, rfl⟩
    · cases h
  · cases h
theorem x_sl_inv {n j : Nat} {pc' : Nat} {L' : List (Option Value)} {t' : List Value} (h : zz_sl n L j t = some (pc', L', t')) : ∃ w, t = w :: t' ∧ j < L.length ∧ pc' = n ∧ L' = zz_sv L j w := by
  unfold zz_sl at h
  split at h
  · split at h
    · cases h
      exact ⟨_, rfl, by omega, rfl, rfl⟩
    · cases h
  · cases h
theorem x_sr_inv {n j : Nat} {pc' : Nat} {L' : List (Option Value)} {t' : List Value} (h : zz_sr n L j t = some (pc', L', t')) : ∃ w, t = w :: t' ∧ j < L.length ∧ pc' = n ∧ L' = zz_sv L j w := by
  unfold zz_sr at h
  split at h
  · split at h
    · cases h
      exact ⟨_, rfl, by assumption, rfl, rfl⟩
    · cases h
  · cases h
theorem x_i2_inv {n : Nat} {g : Int32 → Int32 → Int32} {pc' : Nat} {L' : List (Option Value)} {t' : List Value} (h : zz_i2 n L t g = some (pc', L', t')) : ∃ x y s, t = .int y :: .int x :: s ∧ pc' = n ∧ L' = L ∧ t' = .int (g x y) :: s := by
  unfold zz_i2 at h
  split at h
  · cases h
    exact ⟨_, _, _, rfl, rfl, rfl, rfl⟩
  · cases h
theorem x_i2n_inv {n : Nat} {g : Int32 → Int32 → Int32} {pc' : Nat} {L' : List (Option Value)} {t' : List Value} (h : zz_i2n n L t g = some (pc', L', t')) : ∃ x y s, t = .int y :: .int x :: s ∧ pc' = n ∧ L' = L ∧ t' = .int (g x y) :: s := by
  unfold zz_i2n at h
  split at h
  · split at h
    · cases h
    · cases h
      exact ⟨_, _, _, rfl, rfl, rfl, rfl⟩
  · cases h
theorem x_l2_inv {n : Nat} {g : Int64 → Int64 → Int64} {pc' : Nat} {L' : List (Option Value)} {t' : List Value} (h : zz_l2 n L t g = some (pc', L', t')) : ∃ x y s, t = .long y :: .long x :: s ∧ pc' = n ∧ L' = L ∧ t' = .long (g x y) :: s := by
  unfold zz_l2 at h
  split at h
  · cases h
    exact ⟨_, _, _, rfl, rfl, rfl, rfl⟩
  · cases h
theorem x_l2n_inv {n : Nat} {g : Int64 → Int64 → Int64} {pc' : Nat} {L' : List (Option Value)} {t' : List Value} (h : zz_l2n n L t g = some (pc', L', t')) : ∃ x y s, t = .long y :: .long x :: s ∧ pc' = n ∧ L' = L ∧ t' = .long (g x y) :: s := by
  unfold zz_l2n at h
  split at h
  · split at h
    · cases h
    · cases h
      exact ⟨_, _, _, rfl, rfl, rfl, rfl⟩
  · cases h
theorem x_i2_go {ins : Instr} {o : Nat} {g : Int32 → Int32 → Int32} (hone : zz_one q (p, ins, len, r, v0) (pc, L, t, cs, cu, su) = some σ') (hdb : zz_db ins r v0 pc L t cs = none) (hal : zz_al ins r q.1 q.2.1 pc L t cs cu su = none) (hna : zz_na ins r q.2.2.1 q.2.2.2 pc L t cs = none) (hi : ∀ pc' L' t', zz_da ins pc L t = some (pc', L', t') → ∃ x y s, t = .int y :: .int x :: s ∧ pc' = pc + 1 ∧ L' = L ∧ t' = .int (g x y) :: s) (hg : ∀ x y : Int32, (g x y).toInt = xop2 o x.toInt y.toInt) (h : x_2 o 0 1 r v0 pc A st lvl T k = true) (hl : ρ.length = lvl) (hA : xRL ρ A L) (hS : xRS ρ st t) (hF : fFX cs) (hd : xd I Q T 0 ρ (fh cs)) : xNx k I Q ρ cu su σ' := by
  obtain ⟨pc', L', t', h1, rfl⟩ := x_pure hone hdb hal hna
  obtain ⟨x, y, s, rfl, rfl, rfl, rfl⟩ := hi pc' L' t' h1
  exact x_2_ok h hl hA hS hF hd (fun a b t2 e => by
    cases e
    exact ⟨_, rfl, rfl, hg x y⟩)
theorem x_l2_go {ins : Instr} {o : Nat} {g : Int64 → Int64 → Int64} (hone : zz_one q (p, ins, len, r, v0) (pc, L, t, cs, cu, su) = some σ') (hdb : zz_db ins r v0 pc L t cs = none) (hal : zz_al ins r q.1 q.2.1 pc L t cs cu su = none) (hna : zz_na ins r q.2.2.1 q.2.2.2 pc L t cs = none) (hi : ∀ pc' L' t', zz_da ins pc L t = some (pc', L', t') → ∃ x y s, t = .long y :: .long x :: s ∧ pc' = pc + 1 ∧ L' = L ∧ t' = .long (g x y) :: s) (hg : ∀ x y : Int64, (g x y).toInt = xop2 o x.toInt y.toInt) (h : x_2 o 1 1 r v0 pc A st lvl T k = true) (hl : ρ.length = lvl) (hA : xRL ρ A L) (hS : xRS ρ st t) (hF : fFX cs) (hd : xd I Q T 0 ρ (fh cs)) : xNx k I Q ρ cu su σ' := by
  obtain ⟨pc', L', t', h1, rfl⟩ := x_pure hone hdb hal hna
  obtain ⟨x, y, s, rfl, rfl, rfl, rfl⟩ := hi pc' L' t' h1
  exact x_2_ok h hl hA hS hF hd (fun a b t2 e => by
    cases e
    exact ⟨_, rfl, rfl, hg x y⟩)
theorem g_add (x y : Int32) : (x + y).toInt = xop2 0 x.toInt y.toInt := Int32.toInt_add x y
theorem g_sub (x y : Int32) : (x - y).toInt = xop2 1 x.toInt y.toInt := Int32.toInt_sub x y
theorem g_mul (x y : Int32) : (x * y).toInt = xop2 2 x.toInt y.toInt := Int32.toInt_mul x y
theorem g_and (x y : Int32) : (x &&& y).toInt = xop2 3 x.toInt y.toInt := by simp only [xop2, xand, Int32.ofInt_toInt]
theorem g_or (x y : Int32) : (x ||| y).toInt = xop2 4 x.toInt y.toInt := by simp only [xop2, xor', Int32.ofInt_toInt]
theorem g_xor (x y : Int32) : (x ^^^ y).toInt = xop2 5 x.toInt y.toInt := by simp only [xop2, xxor, Int32.ofInt_toInt]
theorem g_shl (x y : Int32) : (x <<< (y &&& 31)).toInt = xop2 6 x.toInt y.toInt := by simp only [xop2, xshl, Int32.ofInt_toInt]
theorem g_shr (x y : Int32) : (x >>> (y &&& 31)).toInt = xop2 7 x.toInt y.toInt := by simp only [xop2, xshr, Int32.ofInt_toInt]
theorem g_ushr (x y : Int32) : ((x.toUInt32 >>> (y.toUInt32 &&& Int32.toUInt32 31)).toInt32).toInt = xop2 8 x.toInt y.toInt := by simp only [xop2, xushr, Int32.ofInt_toInt]
theorem g_div (x y : Int32) : (x / y).toInt = xop2 9 x.toInt y.toInt := Int32.toInt_div x y
theorem g_rem (x y : Int32) : (x - x / y * y).toInt = xop2 10 x.toInt y.toInt := by
  rw [Int32.toInt_sub, Int32.toInt_mul, Int32.toInt_div]
  rfl
theorem g_ladd (x y : Int64) : (x + y).toInt = xop2 13 x.toInt y.toInt := Int64.toInt_add x y
theorem g_lsub (x y : Int64) : (x - y).toInt = xop2 14 x.toInt y.toInt := Int64.toInt_sub x y
theorem g_lmul (x y : Int64) : (x * y).toInt = xop2 15 x.toInt y.toInt := Int64.toInt_mul x y
theorem g_ldiv (x y : Int64) : (x / y).toInt = xop2 16 x.toInt y.toInt := Int64.toInt_div x y
theorem g_lrem (x y : Int64) : (x - x / y * y).toInt = xop2 17 x.toInt y.toInt := by
  rw [Int64.toInt_sub, Int64.toInt_mul, Int64.toInt_div]
  rfl
theorem g_max (x y : Int32) : (if x < y then y else x).toInt = xop2 11 x.toInt y.toInt := by
  simp only [xop2, xmax, Int32.lt_iff_toInt_lt]
  split <;> rfl
theorem g_min (x y : Int32) : (if y < x then y else x).toInt = xop2 12 x.toInt y.toInt := by
  simp only [xop2, xmin, Int32.lt_iff_toInt_lt]
  split <;> rfl
theorem g_lcmp (x y : Int64) : (lg_cmp x y).toInt = xop2 18 x.toInt y.toInt := by
  have h1 : x > y ↔ y.toInt < x.toInt := Int64.lt_iff_toInt_lt
  have h2 : x = y ↔ x.toInt = y.toInt := Int64.toInt_inj.symm
  simp only [xop2, xlcmp, lg_cmp, h1, h2]
  split
  · rfl
  · split <;> rfl
-- branches
theorem x_cc_t (op : ClassFile.Cond) (a b : Int) : xcmp (x_cc op) a b ↔ t_rel op a b = true := by cases op <;> simp [xcmp, x_cc, t_rel]
theorem x_cc_f (op : ClassFile.Cond) (a b : Int) : xcmp (xng (x_cc op)) a b ↔ t_rel op a b = false := by cases op <;> simp [xcmp, xng, x_cc, t_rel]
theorem x_cb_eq (op : ClassFile.Cond) (a b : Int) : x_cb op a b = t_rel op a b := by
  have e1 : t_eq a b = decide (a = b) := by
    rw [Bool.eq_iff_iff, t_eq_iff, decide_eq_true_eq]
  have e2 : ∀ x y, t_le x y = decide (x ≤ y) := fun x y => by
    rw [Bool.eq_iff_iff, t_le_iff, decide_eq_true_eq]
  cases op
  · simp only [x_cb, t_rel, e1]
  · simp only [x_cb, t_rel, e1]
    by_cases h : a = b <;> simp [h]
  · simp only [x_cb, t_rel, e2]
    exact decide_eq_decide.mpr (by show a + 1 ≤ b ↔ a < b; omega)
  · simp only [x_cb, t_rel, e2]
  · simp only [x_cb, t_rel, e2]
    exact decide_eq_decide.mpr (by show b + 1 ≤ a ↔ b < a; omega)
  · simp only [x_cb, t_rel, e2]
theorem x_if_ok {op : ClassFile.Cond} {x y : xO} {a b : Int} {kt kf : xT → Bool} (hh : x_if op x y T kt kf = true) (hx : xl ρ x a) (hy : xl ρ y b) (hd : xd I Q T 0 ρ h) : (t_rel op a b = true → ∃ T', kt T' = true ∧ xd I Q T' 0 ρ h) ∧ (t_rel op a b = false → ∃ T', kf T' = true ∧ xd I Q T' 0 ρ h) := by
  have hbr : x_br op x y T kt kf = true → (t_rel op a b = true → ∃ T', kt T' = true ∧ xd I Q T' 0 ρ h) ∧ (t_rel op a b = false → ∃ T', kf T' = true ∧ xd I Q T' 0 ρ h) := by
    intro hb
    unfold x_br at hb
    split at hb
    · cases hb
    · rename_i nd T'
      split at hb
      · rename_i a' b' o m
        obtain ⟨h1, hb1⟩ := t_bool hb
        obtain ⟨h2, hb2⟩ := t_bool hb1
        obtain ⟨h3, hb3⟩ := t_bool hb2
        obtain ⟨h4, hb4⟩ := t_bool hb3
        have e1 := xob_ok h1
        have e2 := xob_ok h2
        have e3 := Nat.eq_of_beq_eq_true h3
        subst e1
        subst e2
        subst e3
        have hd : (xcmp (x_cc op) (xe ρ a') (xe ρ b') → xd I Q T' 0 ρ h) ∧ (xcmp (xng (x_cc op)) (xe ρ a') (xe ρ b') → xd I Q T' (Int.toNat m) ρ h) := hd
        rw [xe_of hx, xe_of hy, x_cc_t, x_cc_f] at hd
        exact ⟨fun q => ⟨T', h4, hd.1 q⟩, fun q => ⟨_, hb4, xd_skip (hd.2 q)⟩⟩
      · cases hb
  unfold x_if at hh
  split at hh
  · split at hh
    · rename_i a' _ b'
      have hx : a' = a := hx
      have hy : b' = b := hy
      subst hx
      subst hy
      rw [x_cb_eq] at hh
      split at hh
      · rename_i hq
        exact ⟨fun _ => ⟨T, hh, hd⟩, fun q => (by rw [hq] at q; cases q)⟩
      · rename_i hq
        exact ⟨fun q => (by rw [hq] at q; cases q), fun _ => ⟨T, hh, hd⟩⟩
    · exact hbr hh
  · exact hbr hh
theorem x_go_ok {off : Int} {kk : Nat → Bool} (h : x_go pc off kk = true) : ∃ tt, zz_tg pc off = some tt ∧ kk tt = true := by
  unfold x_go at h
  split at h
  · rename_i tt ht
    rw [t_fn_eq] at h
    exact ⟨tt, ht, h⟩
  · cases h
theorem x_bo_ok {op : ClassFile.Cond} {off : Int} {x y : xO} {a b : Int} {kk : Nat → xT → Bool} (hh : x_bo op off pc x y T kk = true) (hx : xl ρ x a) (hy : xl ρ y b) (hd : xd I Q T 0 ρ h) {s' t' : List Value} {pc' : Nat} {L' : List (Option Value)} (hg : zz_go L s' (zz_br (t_rel op a b) pc off) = some (pc', L', t')) : L' = L ∧ t' = s' ∧ ∃ T', kk pc' T' = true ∧ xd I Q T' 0 ρ h := by
  obtain ⟨h1, h2⟩ := x_if_ok hh hx hy hd
  unfold zz_br at hg
  split at hg
  · rename_i tt ht
    unfold zz_go at hg
    cases hg
    refine ⟨rfl, rfl, ?_⟩
    split
    · rename_i hq
      obtain ⟨T', h3, h4⟩ := h1 hq
      obtain ⟨t2, h5, h6⟩ := x_go_ok h3
      rw [ht] at h5
      cases h5
      exact ⟨T', h6, h4⟩
    · rename_i hq
      obtain ⟨T', h3, h4⟩ := h2 hq
      rw [t_fn_eq] at h3
      exact ⟨T', h3, h4⟩
  · cases hg
noncomputable def x_fst (d a : Int) : List (Int × Int) → Int
  | [] => d
  | p :: r => if a = p.1 then p.2 else x_fst d a r
theorem x_cs_ok {d : Int} {x : xO} {a : Int} {kk : Nat → xT → Bool} (hx : xl ρ x a) : ∀ {ps : List (Int × Int)} {T : xT}, x_cs pc x d ps kk T = true → xd I Q T 0 ρ h → ∃ T' tt, zz_tg pc (x_fst d a ps) = some tt ∧ kk tt T' = true ∧ xd I Q T' 0 ρ h
  | [], T, hh, hd => by
    obtain ⟨tt, h1, h2⟩ := x_go_ok hh
    exact ⟨T, tt, h1, h2, hd⟩
  | p :: ps, T, hh, hd => by
    have hh : x_if .eq x (.inr p.1) T (fun T1 => x_go pc p.2 (fun t => kk t T1)) (x_cs pc x d ps kk) = true := hh
    obtain ⟨h1, h2⟩ := x_if_ok hh hx (show xl ρ (.inr p.1) p.1 from rfl) hd
    unfold x_fst
    by_cases hq : a = p.1
    · rw [if_pos hq]
      obtain ⟨T', h3, h4⟩ := h1 (by simp [t_rel, hq])
      obtain ⟨tt, h5, h6⟩ := x_go_ok h3
      exact ⟨T', tt, h5, h6, h4⟩
    · rw [if_neg hq]
      obtain ⟨T', h3, h4⟩ := h2 (by simp [t_rel, hq])
      exact x_cs_ok hx h3 h4
theorem x_fst_ls (d a : Int) : ∀ l : List (Int × Int), x_fst d a l = Op.lookupswitch.offset l d a
  | [] => rfl
  | (b, o) :: r => by
    rw [Op.lookupswitch.offset_cons, ← x_fst_ls d a r]
    show (if a = b then o else x_fst d a r) = _
    by_cases hq : a = b
    · subst hq
      simp
    · rw [if_neg hq]
      split
      · rename_i hs
        exact absurd (by first | exact hs | exact hs.symm | (simpa using hs) | exact (by simpa using hs : b = a).symm) hq
      · rfl
theorem x_fst_ts (d a : Int) : ∀ (l : List Int) (lo : Int), x_fst d a (x_off lo l) = if a < lo ∨ lo + l.length - 1 < a then d else (l[(a - lo).toNat]?).getD d
  | [], lo => by
    show d = _
    simp
  | o :: l, lo => by
    show (if a = lo then o else x_fst d a (x_off (Int.add lo 1) l)) = _
    have e : Int.add lo 1 = lo + 1 := rfl
    rw [e, x_fst_ts d a l (lo + 1)]
    simp only [List.length_cons]
    by_cases h1 : a = lo
    · subst h1
      rw [if_pos rfl, if_neg (by omega)]
      simp
    · rw [if_neg h1]
      by_cases h2 : a < lo ∨ lo + ((l.length + 1 : Nat) : Int) - 1 < a
      · rw [if_pos h2, if_pos (by omega)]
      · rw [if_neg h2, if_neg (by omega)]
        have e2 : (a - lo).toNat = (a - (lo + 1)).toNat + 1 := by omega
        rw [e2, List.getElem?_cons_succ]
end XS1
end
section
/-! the check of trees is sound: every instruction -/
section XS2
variable {ρ ρ2 : List Int} {I : Nat → List Int → fH → Prop} {Q : Int → fH → Prop} {T : xT} {h : fH} {A : xL} {L : List (Option Value)} {st : xS} {t : List Value} {cs : zz_W} {pc p len lvl cu su : Nat} {r : List Nat} {v0 : Value} {k : xK} {σ' : zz_S} {q : Nat × Nat × Nat × Nat} {ins : Instr}
theorem xtB_0 {u : Value} {τ : Nat} (h : xtB τ u) (hn : τ ≠ 1) : xtB 0 u := by
  match τ, h with
  | 0, h => exact h
  | 1, h => exact absurd rfl hn
  | t + 2, h => exact h.1
theorem x_getf_ok {ix : Nat} (hone : zz_one q (p, .getfield ix, len, r, v0) (pc, L, t, cs, cu, su) = some σ') (hh : x_getf r v0 pc A st lvl T k = true) (hl : ρ.length = lvl) (hA : xRL ρ A L) (hS : xRS ρ st t) (hF : fFX cs) (hd : xd I Q T 0 ρ (fh cs)) : xNx k I Q ρ cu su σ' := by
  obtain ⟨pc', L', t', cs', h1, rfl⟩ := x_heap hone rfl rfl rfl
  unfold x_getf at hh
  split at hh
  · rename_i ci f w
    split at hh
    · rename_i τ o s
      obtain ⟨u, t2, rfl, hu, hS2⟩ := xRS_cons hS
      simp only [zz_db] at h1
      split at h1
      · rename_i i rest heq
        cases heq
        split at h1
        · rename_i cj fs hc
          split at h1
          · rename_i hcj
            subst hcj
            split at h1
            · rename_i v hv
              cases h1
              obtain ⟨b1, b2⟩ := f_obj hF hc
              have hcat := b2 v (List.mem_of_getElem? hv)
              have hfh : fh cs (i : Int) (f : Int) = fv v := by
                rw [fh_at cs i f hc]
                simp only [fcl]
                rw [hv]
              split at hh
              · rename_i ab z τ' hr
                obtain ⟨c1, c2⟩ := f_rule hF hr b1
                rw [hfh] at c1
                have htg : xtB τ' v := by
                  match τ', c2 with
                  | 0, _ => exact hcat
                  | t + 2, c2 =>
                    refine ⟨hcat, fun j hj => ?_⟩
                    rw [hj] at c1
                    have c1 : ((j : Nat) : Int) = f_to i (ab, z, t + 2) := c1
                    rw [← c1] at c2
                    have c2 : (match f_ct[j]? with | some (a, u, _) => Nat.beq a 1 && Nat.beq u t | none => false) = true := c2
                    split at c2
                    · rename_i a u' n hq
                      rw [Bool.and_eq_true] at c2
                      have e1 := Nat.eq_of_beq_eq_true c2.1
                      have e2 := Nat.eq_of_beq_eq_true c2.2
                      subst e1
                      subst e2
                      exact ⟨n, hq⟩
                    · cases c2
                split at hh
                · rw [t_fi_eq, t_fn_eq] at hh
                  exact xNx_0 hh hl hA ⟨⟨c1.symm, htg⟩, hS2⟩ hF hd
                · split at hh
                  · rename_i y
                    rw [t_fi_eq, t_fn_eq] at hh
                    have hy : y = (i : Int) := hu.1
                    subst hy
                    exact xNx_0 hh hl hA ⟨⟨c1.symm, htg⟩, hS2⟩ hF hd
                  · rename_i y
                    obtain ⟨T', rfl, h2⟩ := x_ev_ok hh
                    rw [t_fn_eq] at h2
                    have hd : xd I Q T' 0 (ρ ++ [xe ρ (.inl y) + z]) (fh cs) := hd _ rfl
                    rw [xe_of hu.1] at hd
                    have c1 : fv v = (i : Int) + z := c1
                    rw [show fv (Value.ref i) = (i : Int) from rfl, ← c1] at hd
                    exact xNx_1 h2 hl (xRL_ext hA) ⟨⟨by rw [← hl]; exact xl_new _, htg⟩, xRS_ext hS2⟩ hF hd
              · obtain ⟨T', rfl, h2⟩ := x_ev_ok hh
                rw [t_fn_eq] at h2
                have hd : xd I Q T' 0 (ρ ++ [fh cs (xe ρ o) (f : Int)]) (fh cs) := hd _ rfl
                rw [xe_of hu.1, show fv (Value.ref i) = (i : Int) from rfl, hfh] at hd
                exact xNx_1 h2 hl (xRL_ext hA) ⟨⟨by rw [← hl]; exact xl_new _, hcat⟩, xRS_ext hS2⟩ hF hd
            · cases h1
          · cases h1
        · cases h1
      · cases h1
    · cases hh
  · cases hh
theorem x_putf_ok {ix : Nat} (hone : zz_one q (p, .putfield ix, len, r, v0) (pc, L, t, cs, cu, su) = some σ') (hh : x_putf r v0 pc A st lvl T k = true) (hl : ρ.length = lvl) (hA : xRL ρ A L) (hS : xRS ρ st t) (hF : fFX cs) (hd : xd I Q T 0 ρ (fh cs)) : xNx k I Q ρ cu su σ' := by
  obtain ⟨pc', L', t', cs', h1, rfl⟩ := x_heap hone rfl rfl rfl
  unfold x_putf at hh
  split at hh
  · rename_i ci f w tc
    split at hh
    · rename_i τ1 v τ2 o s
      obtain ⟨u, t2, rfl, hu, hS2⟩ := xRS_cons hS
      obtain ⟨y, t3, rfl, hy, hS3⟩ := xRS_cons hS2
      split at hh
      · cases hh
      · rename_i hr
        split at hh
        · cases hh
        · rename_i htc
          simp only [zz_db] at h1
          split at h1
          · rename_i v' i rest heq
            cases heq
            split at h1
            · rename_i cj fs hc
              split at h1
              · rename_i hq
                cases h1
                obtain ⟨q1, q2, q3⟩ := hq
                subst q1
                obtain ⟨b1, b2⟩ := f_put hF hc q2 hr (f_fit q3 htc)
                obtain ⟨T', rfl, h2⟩ := x_em_ok hh
                rw [t_fn_eq] at h2
                have hd : xd I Q T' 0 ρ (fu (fh cs) (xe ρ o) (f : Int) (xe ρ v)) := hd _ rfl
                rw [xe_of hu.1, xe_of hy.1] at hd
                refine xNx_0 h2 hl hA hS3 b1 ?_
                rw [b2]
                exact hd
              · cases h1
            · cases h1
          · cases h1
    · cases hh
  · cases hh
theorem x_ild_ok (hone : zz_one q (p, .iaload, len, r, v0) (pc, L, t, cs, cu, su) = some σ') {kk : xV → xV → xS → Prop} {τ1 τ2 : Nat} {i a : xO} {s : xS} (hst : st = (τ1, i) :: (τ2, a) :: s) (hh : x_ev (1, [a, i], 0, 0) lvl T (fun v l T' => t_fn (Nat.add pc 1) (fun pc' => k pc' A ((0, v) :: s) l T')) = true) (hl : ρ.length = lvl) (hA : xRL ρ A L) (hS : xRS ρ st t) (hF : fFX cs) (hd : xd I Q T 0 ρ (fh cs)) : xNx k I Q ρ cu su σ' := by
  obtain ⟨pc', L', t', cs', h1, rfl⟩ := x_heap hone rfl rfl rfl
  subst hst
  obtain ⟨u, t2, rfl, hu, hS2⟩ := xRS_cons hS
  obtain ⟨y, t3, rfl, hy, hS3⟩ := xRS_cons hS2
  simp only [zz_db] at h1
  split at h1
  · rename_i j b rest heq
    cases heq
    split at h1
    · rename_i xs hc
      split at h1
      · rename_i hq
        cases h1
        obtain ⟨q1, q2, q3⟩ := f_ix hq
        obtain ⟨T', rfl, h2⟩ := x_ev_ok hh
        rw [t_fn_eq] at h2
        have hd : xd I Q T' 0 (ρ ++ [fh cs (xe ρ a) (xe ρ i)]) (fh cs) := hd _ rfl
        rw [xe_of hu.1, xe_of hy.1] at hd
        have e : fh cs (fv (.ref b)) (fv (.int j)) = (xs.getD j.toNatClampNeg 0).toInt := by
          show fh cs (b : Int) j.toInt = _
          rw [← q3, fh_at cs b _ hc]
          simp only [fcl]
          rw [List.getElem?_eq_getElem q2, List.getD_eq_getElem?_getD, List.getElem?_eq_getElem q2]
          rfl
        rw [e] at hd
        exact xNx_1 h2 hl (xRL_ext hA) ⟨⟨by rw [← hl]; exact xl_new _, rfl⟩, xRS_ext hS3⟩ hF hd
      · cases h1
    · cases h1
  · cases h1
theorem x_ist_ok (hone : zz_one q (p, .iastore, len, r, v0) (pc, L, t, cs, cu, su) = some σ') {τ1 τ2 τ3 : Nat} {v i a : xO} {s : xS} (hst : st = (τ1, v) :: (τ2, i) :: (τ3, a) :: s) (hh : x_em (3, [a, i, v], 0, 0) T (fun T' => t_fn (Nat.add pc 1) (fun pc' => k pc' A s lvl T')) = true) (hl : ρ.length = lvl) (hA : xRL ρ A L) (hS : xRS ρ st t) (hF : fFX cs) (hd : xd I Q T 0 ρ (fh cs)) : xNx k I Q ρ cu su σ' := by
  obtain ⟨pc', L', t', cs', h1, rfl⟩ := x_heap hone rfl rfl rfl
  subst hst
  obtain ⟨u, t2, rfl, hu, hS2⟩ := xRS_cons hS
  obtain ⟨y, t3, rfl, hy, hS3⟩ := xRS_cons hS2
  obtain ⟨w, t4, rfl, hw, hS4⟩ := xRS_cons hS3
  simp only [zz_db] at h1
  split at h1
  · rename_i x j b rest heq
    cases heq
    split at h1
    · rename_i xs hc
      split at h1
      · rename_i hq
        cases h1
        obtain ⟨q1, q2, q3⟩ := f_ix hq
        obtain ⟨b1, b2⟩ := f_sti (x := x) hF hc q2
        obtain ⟨T', rfl, h2⟩ := x_em_ok hh
        rw [t_fn_eq] at h2
        have hd : xd I Q T' 0 ρ (fu (fh cs) (xe ρ a) (xe ρ i) (xe ρ v)) := hd _ rfl
        rw [xe_of hu.1, xe_of hy.1, xe_of hw.1] at hd
        refine xNx_0 h2 hl hA hS4 b1 ?_
        rw [b2, q3]
        exact hd
      · cases h1
    · cases h1
  · cases h1
theorem x_ast_ok {t0 w1 w2 : Nat} (hone : zz_one q (p, .aastore, len, [t0, w1, w2], v0) (pc, L, t, cs, cu, su) = some σ') (hr : f_arr t0 = none) {τ1 τ2 τ3 : Nat} {v i a : xO} {s : xS} (hst : st = (τ1, v) :: (τ2, i) :: (τ3, a) :: s) (hh : x_em (3, [a, i, v], 0, 0) T (fun T' => t_fn (Nat.add pc 1) (fun pc' => k pc' A s lvl T')) = true) (hl : ρ.length = lvl) (hA : xRL ρ A L) (hS : xRS ρ st t) (hF : fFX cs) (hd : xd I Q T 0 ρ (fh cs)) : xNx k I Q ρ cu su σ' := by
  obtain ⟨pc', L', t', cs', h1, rfl⟩ := x_heap hone rfl rfl rfl
  subst hst
  obtain ⟨u, t2, rfl, hu, hS2⟩ := xRS_cons hS
  obtain ⟨y, t3, rfl, hy, hS3⟩ := xRS_cons hS2
  obtain ⟨w, t4, rfl, hw, hS4⟩ := xRS_cons hS3
  simp only [zz_db] at h1
  split at h1
  · rename_i x j b rest heq
    cases heq
    split at h1
    · rename_i t1 rs hc
      split at h1
      · split at h1
        · rename_i hq
          cases h1
          obtain ⟨q0, qc, qi⟩ := hq
          subst q0
          obtain ⟨q1, q2, q3⟩ := f_ix qi
          obtain ⟨b1, b2⟩ := f_sta (w := x) hF hc q2 hr
          obtain ⟨T', rfl, h2⟩ := x_em_ok hh
          rw [t_fn_eq] at h2
          have hd : xd I Q T' 0 ρ (fu (fh cs) (xe ρ a) (xe ρ i) (xe ρ v)) := hd _ rfl
          rw [xe_of hu.1, xe_of hy.1, xe_of hw.1] at hd
          refine xNx_0 h2 hl hA hS4 b1 ?_
          rw [b2, q3]
          exact hd
        · cases h1
      · cases h1
    · cases h1
  · cases h1
theorem x_ald_ok (hone : zz_one q (p, .aaload, len, r, v0) (pc, L, t, cs, cu, su) = some σ') (hh : x_ald r v0 pc A st lvl T k = true) (hl : ρ.length = lvl) (hA : xRL ρ A L) (hS : xRS ρ st t) (hF : fFX cs) (hd : xd I Q T 0 ρ (fh cs)) : xNx k I Q ρ cu su σ' := by
  obtain ⟨pc', L', t', cs', h1, rfl⟩ := x_heap hone rfl rfl rfl
  unfold x_ald at hh
  split at hh
  · rename_i τ1 i τ a s
    obtain ⟨u, t2, rfl, hu, hS2⟩ := xRS_cons hS
    obtain ⟨y, t3, rfl, hy, hS3⟩ := xRS_cons hS2
    simp only [zz_db] at h1
    split at h1
    · rename_i j b rest heq
      cases heq
      split at h1
      · rename_i t1 rs hc
        split at h1
        · rename_i hq
          cases h1
          obtain ⟨q1, q2, q3⟩ := f_ix hq.1
          have hkd := f_kind hF hc
          have e : fh cs (fv (.ref b)) (fv (.int j)) = fv (va_rf (rs.getD j.toNatClampNeg none)) := by
            show fh cs (b : Int) j.toInt = _
            rw [← q3, fh_at cs b _ hc, fv_rf]
            simp only [fcl]
            rw [List.getElem?_eq_getElem q2, List.getD_eq_getElem?_getD, List.getElem?_eq_getElem q2]
            rfl
          have hcat : (va_rf (rs.getD j.toNatClampNeg none)).category = 1 := by
            cases rs.getD j.toNatClampNeg none <;> rfl
          split at hh
          · rename_i t0
            have hty : t1 = t0 := by
              obtain ⟨n, hn⟩ := hy.2.2 b rfl
              rw [hn] at hkd
              simp only [fct, Option.some.injEq, Prod.mk.injEq] at hkd
              exact hkd.2.1.symm
            subst hty
            split at hh
            · rename_i m hr
              have e2 := f_arule hF hr hkd q2
              obtain ⟨T', rfl, h2⟩ := x_ev_ok hh
              rw [t_fn_eq] at h2
              have hd : xd I Q T' 0 (ρ ++ [xe ρ a + 1 + m * xe ρ i]) (fh cs) := hd _ rfl
              rw [xe_of hu.1, xe_of hy.1] at hd
              have e3 : fv (.ref b) + 1 + m * fv (.int j) = fv (va_rf (rs.getD j.toNatClampNeg none)) := by
                rw [← e]
                show (b : Int) + 1 + m * j.toInt = fh cs (b : Int) j.toInt
                rw [← q3, e2]
              rw [e3] at hd
              exact xNx_1 h2 hl (xRL_ext hA) ⟨⟨by rw [← hl]; exact xl_new _, hcat⟩, xRS_ext hS3⟩ hF hd
            · obtain ⟨T', rfl, h2⟩ := x_ev_ok hh
              rw [t_fn_eq] at h2
              have hd : xd I Q T' 0 (ρ ++ [fh cs (xe ρ a) (xe ρ i)]) (fh cs) := hd _ rfl
              rw [xe_of hu.1, xe_of hy.1, e] at hd
              exact xNx_1 h2 hl (xRL_ext hA) ⟨⟨by rw [← hl]; exact xl_new _, hcat⟩, xRS_ext hS3⟩ hF hd
          · cases hh
        · cases h1
      · cases h1
    · cases h1
  · cases hh
theorem x_aln_ok (hone : zz_one q (p, .arraylength, len, r, v0) (pc, L, t, cs, cu, su) = some σ') {τ1 : Nat} {a : xO} {s : xS} (hst : st = (τ1, a) :: s) (hh : x_ev (6, [a], 0, 0) lvl T (fun v l T' => t_fn (Nat.add pc 1) (fun pc' => k pc' A ((0, v) :: s) l T')) = true) (hl : ρ.length = lvl) (hA : xRL ρ A L) (hS : xRS ρ st t) (hF : fFX cs) (hd : xd I Q T 0 ρ (fh cs)) : xNx k I Q ρ cu su σ' := by
  obtain ⟨pc', L', t', cs', h1, rfl⟩ := x_heap hone rfl rfl rfl
  subst hst
  obtain ⟨u, t2, rfl, hu, hS2⟩ := xRS_cons hS
  obtain ⟨T', rfl, h2⟩ := x_ev_ok hh
  rw [t_fn_eq] at h2
  have hd : xd I Q T' 0 (ρ ++ [f_len (xe ρ a)]) (fh cs) := hd _ rfl
  rw [xe_of hu.1] at hd
  have key : ∀ (b n : Nat) (d : zz_C), zz_cell cs b = some d → (fct (some d)).2.2 = n → n ≤ 2000 → f_len (fv (.ref b)) = (Int32.ofNat n).toInt := by
    intro b n d hc hn hle
    have hk := f_kind hF hc
    show (match f_ct[b]? with | some (_, _, n) => (n : Int) | none => 0) = _
    rw [hk]
    show ((fct (some d)).2.2 : Int) = _
    rw [hn, Int32.toInt_ofNat_of_lt (by omega)]
  have small : ∀ (b : Nat) (d : zz_C), zz_cell cs b = some d → (fct (some d)).2.2 ≤ 2000 := by
    intro b d hc
    have h3 : f_ct.all (fun e => decide (e.2.2 ≤ 2000)) = true := by decide +kernel
    have h4 := List.all_eq_true.mp h3 _ (List.mem_of_getElem? (f_kind hF hc))
    simpa using h4
  simp only [zz_db] at h1
  split at h1
  · rename_i b rest heq
    cases heq
    split at h1
    · rename_i xs hc
      cases h1
      rw [key b xs.length _ hc rfl (small b _ hc)] at hd
      exact xNx_1 h2 hl (xRL_ext hA) ⟨⟨by rw [← hl]; exact xl_new _, rfl⟩, xRS_ext hS2⟩ hF hd
    · rename_i t1 rs hc
      split at h1
      · cases h1
        rw [key b rs.length _ hc rfl (small b _ hc)] at hd
        exact xNx_1 h2 hl (xRL_ext hA) ⟨⟨by rw [← hl]; exact xl_new _, rfl⟩, xRS_ext hS2⟩ hF hd
      · cases h1
    · cases h1
  · cases h1
theorem x_na_ok {ix : Nat} {a1 a2 a3 a4 a5 : Nat} (hone : zz_one q (p, .invokestatic ix, len, [a1, a2, a3, a4, a5], v0) (pc, L, t, cs, cu, su) = some σ') (hh : x_na [a1, a2, a3, a4, a5] v0 pc A st lvl T k = true) (hl : ρ.length = lvl) (hA : xRL ρ A L) (hS : xRS ρ st t) (hF : fFX cs) (hd : xd I Q T 0 ρ (fh cs)) : xNx k I Q ρ cu su σ' := by
  have hna : ∃ pc' L' t' cs', zz_na (.invokestatic ix) [a1, a2, a3, a4, a5] q.2.2.1 q.2.2.2 pc L t cs = some (pc', L', t', cs') ∧ σ' = (pc', L', t', cs', cu, su) := by
    simp only [zz_one, zz_da, zz_db, zz_al] at hone
    split at hone
    · rename_i h1
      cases hone
      exact ⟨_, _, _, _, h1, rfl⟩
    · cases hone
  obtain ⟨pc', L', t', cs', h1, rfl⟩ := hna
  unfold x_na at hh
  split at hh
  · rename_i b1 b2 b3 b4 b5 heq
    cases heq
    split at hh
    · simp only [zz_na] at h1
      split at h1
      · split at h1
        · cases h1
          exact x_2_ok hh hl hA hS hF hd (fun a b t2 e => by
            cases e
            exact ⟨_, rfl, rfl, g_max _ _⟩)
        · cases h1
      · cases h1
    · simp only [zz_na] at h1
      split at h1
      · split at h1
        · cases h1
          exact x_2_ok hh hl hA hS hF hd (fun a b t2 e => by
            cases e
            exact ⟨_, rfl, rfl, g_min _ _⟩)
        · cases h1
      · cases h1
    · split at hh
      · rename_i τ1 n y1 τ2 j y2 τ3 i s
        obtain ⟨u1, t1, rfl, hu1, hS1⟩ := xRS_cons hS
        obtain ⟨u2, t2, rfl, hu2, hS2⟩ := xRS_cons hS1
        obtain ⟨u3, t3, rfl, hu3, hS3⟩ := xRS_cons hS2
        obtain ⟨u4, t4, rfl, hu4, hS4⟩ := xRS_cons hS3
        obtain ⟨u5, t5, rfl, hu5, hS5⟩ := xRS_cons hS4
        simp only [zz_na] at h1
        split at h1
        · rename_i n' dp j' sp i' rest heq
          cases heq
          split at h1
          · rename_i xs hi
            split at h1
            · rename_i ys hj
              split at h1
              · rename_i hq
                cases h1
                obtain ⟨b1, b2⟩ := f_cpy hF hi hj hq.2.2.2.2.2.1 hq.2.2.2.2.2.2
                obtain ⟨T', rfl, h2⟩ := x_em_ok hh
                rw [t_fn_eq] at h2
                have hd : xd I Q T' 0 ρ (fcp (fh cs) (xe ρ i) (xe ρ j) (xe ρ n)) := hd _ rfl
                rw [xe_of hu1.1, xe_of hu3.1, xe_of hu5.1] at hd
                refine xNx_0 h2 hl hA hS5 b1 ?_
                rw [b2, f_neg hq.2.2.2.2.1]
                exact hd
              · cases h1
            · cases h1
          · cases h1
        · cases h1
      · cases hh
    · cases hh
  · rename_i hne
    exact absurd rfl (hne _ _ _ _ _)
theorem x_ar_ok {o τ : Nat} (har : x_ar ins = some (o, τ)) (hone : zz_one q (p, ins, len, r, v0) (pc, L, t, cs, cu, su) = some σ') (hh : x_2 o τ 1 r v0 pc A st lvl T k = true) (hl : ρ.length = lvl) (hA : xRL ρ A L) (hS : xRS ρ st t) (hF : fFX cs) (hd : xd I Q T 0 ρ (fh cs)) : xNx k I Q ρ cu su σ' := by
  unfold x_ar at har
  split at har
  · cases har
    exact x_i2_go hone rfl rfl rfl (fun _ _ _ e => x_i2_inv e) g_add hh hl hA hS hF hd
  · cases har
    exact x_i2_go hone rfl rfl rfl (fun _ _ _ e => x_i2_inv e) g_sub hh hl hA hS hF hd
  · cases har
    exact x_i2_go hone rfl rfl rfl (fun _ _ _ e => x_i2_inv e) g_mul hh hl hA hS hF hd
  · cases har
    exact x_i2_go hone rfl rfl rfl (fun _ _ _ e => x_i2_inv e) g_and hh hl hA hS hF hd
  · cases har
    exact x_i2_go hone rfl rfl rfl (fun _ _ _ e => x_i2_inv e) g_or hh hl hA hS hF hd
  · cases har
    exact x_i2_go hone rfl rfl rfl (fun _ _ _ e => x_i2_inv e) g_xor hh hl hA hS hF hd
  · cases har
    exact x_i2_go hone rfl rfl rfl (fun _ _ _ e => x_i2_inv (g := fun x y => x <<< (y &&& 31)) e) g_shl hh hl hA hS hF hd
  · cases har
    exact x_i2_go hone rfl rfl rfl (fun _ _ _ e => x_i2_inv (g := fun x y => x >>> (y &&& 31)) e) g_shr hh hl hA hS hF hd
  · cases har
    exact x_i2_go hone rfl rfl rfl (fun _ _ _ e => x_i2_inv (g := fun x y => (x.toUInt32 >>> (y.toUInt32 &&& Int32.toUInt32 31)).toInt32) e) g_ushr hh hl hA hS hF hd
  · cases har
    exact x_i2_go hone rfl rfl rfl (fun _ _ _ e => x_i2n_inv e) g_div hh hl hA hS hF hd
  · cases har
    exact x_i2_go hone rfl rfl rfl (fun _ _ _ e => x_i2n_inv (g := fun x y => x - x / y * y) e) g_rem hh hl hA hS hF hd
  · cases har
    exact x_l2_go hone rfl rfl rfl (fun _ _ _ e => x_l2_inv e) g_ladd hh hl hA hS hF hd
  · cases har
    exact x_l2_go hone rfl rfl rfl (fun _ _ _ e => x_l2_inv e) g_lsub hh hl hA hS hF hd
  · cases har
    exact x_l2_go hone rfl rfl rfl (fun _ _ _ e => x_l2_inv e) g_lmul hh hl hA hS hF hd
  · cases har
    exact x_l2_go hone rfl rfl rfl (fun _ _ _ e => x_l2n_inv e) g_ldiv hh hl hA hS hF hd
  · cases har
    exact x_l2_go hone rfl rfl rfl (fun _ _ _ e => x_l2n_inv (g := fun x y => x - x / y * y) e) g_lrem hh hl hA hS hF hd
  · cases har
    obtain ⟨pc', L', t', h1, rfl⟩ := x_pure hone rfl rfl rfl
    simp only [zz_da] at h1
    split at h1
    · cases h1
      exact x_2_ok hh hl hA hS hF hd (fun a b t2 e => by
        cases e
        exact ⟨_, rfl, rfl, g_lcmp _ _⟩)
    · cases h1
  · cases har
end XS2
end
section
/-! the check of trees is sound: a step, whole runs -/
section XS3
variable {ρ ρ2 : List Int} {I : Nat → List Int → fH → Prop} {Q : Int → fH → Prop} {T : xT} {h : fH} {A : xL} {L : List (Option Value)} {st : xS} {t : List Value} {cs : zz_W} {pc p len lvl cu su : Nat} {r : List Nat} {v0 : Value} {k : xK} {σ' : zz_S} {q : Nat × Nat × Nat × Nat} {ins : Instr}
theorem x_op_ok {f : xX} (h1 : x_op ins = some f) (hone : zz_one q (p, ins, len, r, v0) (pc, L, t, cs, cu, su) = some σ') (hh : f r v0 pc A st lvl T k = true) (hl : ρ.length = lvl) (hA : xRL ρ A L) (hS : xRS ρ st t) (hF : fFX cs) (hd : xd I Q T 0 ρ (fh cs)) : xNx k I Q ρ cu su σ' := by
  unfold x_op at h1
  split at h1
  · split at h1
    · rename_i n hin
      cases h1
      rw [t_in_iff] at hin
      obtain ⟨pc', L', t', h2, rfl⟩ := x_pure hone rfl rfl rfl
      cases h2
      exact x_con_ok hh hl hA hS hF hd rfl (Int32.toInt_ofInt_of_le (by omega) (by omega)) rfl
    · cases h1
  · cases h1
    obtain ⟨pc', L', t', h2, rfl⟩ := x_pure hone rfl rfl rfl
    cases h2
    exact x_con_ok hh hl hA hS hF hd rfl rfl rfl
  · cases h1
    obtain ⟨pc', L', t', h2, rfl⟩ := x_pure hone rfl rfl rfl
    cases h2
    exact x_con_ok hh hl hA hS hF hd rfl rfl rfl
  · cases h1
    obtain ⟨pc', L', t', cs', h2, rfl⟩ := x_heap hone rfl rfl rfl
    dsimp only at hh
    split at hh
    · cases h2
      exact x_con_ok hh hl hA hS hF hd rfl rfl rfl
    · cases hh
  · rename_i n
    cases h1
    obtain ⟨pc', L', t', h2, rfl⟩ := x_pure hone rfl rfl rfl
    cases h2
    have hv : (Int64.ofNat (n : Nat)).toInt = Int.ofNat (n : Nat) := by
      match n with
      | 0 => decide
      | 1 => decide
    exact x_con_ok hh hl hA hS hF hd rfl hv rfl
  · cases h1
    obtain ⟨pc', L', t', cs', h2, rfl⟩ := x_heap hone rfl rfl rfl
    dsimp only at hh
    split at hh
    · cases h2
      exact x_con_ok hh hl hA hS hF hd rfl rfl rfl
    · cases hh
  · cases h1
    obtain ⟨pc', L', t', h2, rfl⟩ := x_pure hone rfl rfl rfl
    obtain ⟨w, h3, rfl, rfl, rfl⟩ := x_pi_inv h2
    exact x_lod_ok hh hl hA hS hF hd ⟨w, h3, rfl⟩
  · cases h1
    obtain ⟨pc', L', t', h2, rfl⟩ := x_pure hone rfl rfl rfl
    obtain ⟨w, h3, rfl, rfl, rfl⟩ := x_pi_inv h2
    exact x_lod_ok hh hl hA hS hF hd ⟨w, h3, rfl⟩
  · cases h1
    obtain ⟨pc', L', t', h2, rfl⟩ := x_pure hone rfl rfl rfl
    obtain ⟨w, h3, rfl, rfl, rfl⟩ := x_pl_inv h2
    exact x_lod_ok hh hl hA hS hF hd ⟨w, h3, rfl⟩
  · cases h1
    obtain ⟨pc', L', t', h2, rfl⟩ := x_pure hone rfl rfl rfl
    obtain ⟨w, h3, rfl, rfl, rfl⟩ := x_pl_inv h2
    exact x_lod_ok hh hl hA hS hF hd ⟨w, h3, rfl⟩
  · cases h1
    obtain ⟨pc', L', t', h2, rfl⟩ := x_pure hone rfl rfl rfl
    obtain ⟨w, h3, rfl, rfl, rfl⟩ := x_pr_inv h2
    exact x_lod_ok hh hl hA hS hF hd ⟨w, h3, rfl⟩
  · cases h1
    obtain ⟨pc', L', t', h2, rfl⟩ := x_pure hone rfl rfl rfl
    obtain ⟨w, h3, rfl, rfl, rfl⟩ := x_pr_inv h2
    exact x_lod_ok hh hl hA hS hF hd ⟨w, h3, rfl⟩
  · cases h1
    obtain ⟨pc', L', t', h2, rfl⟩ := x_pure hone rfl rfl rfl
    obtain ⟨w, h3, h4, rfl, rfl⟩ := x_si_inv h2
    exact x_sto_ok hh hl hA hS hF hd ⟨w, t', h3, h4, rfl⟩
  · cases h1
    obtain ⟨pc', L', t', h2, rfl⟩ := x_pure hone rfl rfl rfl
    obtain ⟨w, h3, h4, rfl, rfl⟩ := x_si_inv h2
    exact x_sto_ok hh hl hA hS hF hd ⟨w, t', h3, h4, rfl⟩
  · cases h1
    obtain ⟨pc', L', t', h2, rfl⟩ := x_pure hone rfl rfl rfl
    obtain ⟨w, h3, h4, rfl, rfl⟩ := x_sl_inv h2
    exact x_sto_ok hh hl hA hS hF hd ⟨w, t', h3, h4, rfl⟩
  · cases h1
    obtain ⟨pc', L', t', h2, rfl⟩ := x_pure hone rfl rfl rfl
    obtain ⟨w, h3, h4, rfl, rfl⟩ := x_sl_inv h2
    exact x_sto_ok hh hl hA hS hF hd ⟨w, t', h3, h4, rfl⟩
  · cases h1
    obtain ⟨pc', L', t', h2, rfl⟩ := x_pure hone rfl rfl rfl
    obtain ⟨w, h3, h4, rfl, rfl⟩ := x_sr_inv h2
    exact x_sto_ok hh hl hA hS hF hd ⟨w, t', h3, h4, rfl⟩
  · cases h1
    obtain ⟨pc', L', t', h2, rfl⟩ := x_pure hone rfl rfl rfl
    obtain ⟨w, h3, h4, rfl, rfl⟩ := x_sr_inv h2
    exact x_sto_ok hh hl hA hS hF hd ⟨w, t', h3, h4, rfl⟩
  · -- iinc
    rename_i j n
    split at h1
    · rename_i hin
      cases h1
      rw [t_in_iff] at hin
      obtain ⟨pc', L', t', h2, rfl⟩ := x_pure hone rfl rfl rfl
      simp only [zz_da] at h2
      split at h2
      · rename_i x hx
        cases h2
        dsimp only at hh
        unfold x_ldv at hh
        rw [t_nth_eq] at hh
        obtain ⟨y, h3, h4⟩ := hA.2 j _ hx
        rw [h3] at hh
        split at hh
        · rename_i v hv
          cases hv
          obtain ⟨T', rfl, h5⟩ := x_ev_ok hh
          unfold x_st at h5
          rw [t_upd_eq, t_fn_eq] at h5
          have hd : xd I Q T' 0 (ρ ++ [wr (xe ρ v.2 + n)]) (fh cs) := hd _ rfl
          rw [xe_of (h4 v rfl).1] at hd
          have e : (x + Int32.ofInt n).toInt = wr (fv (.int x) + n) := by
            rw [Int32.toInt_add, Int32.toInt_ofInt_of_le (by omega) (by omega)]
            rfl
          rw [← e] at hd
          have hj : j < L.length := by
            unfold zz_ld at hx
            split at hx
            · rename_i hq
              exact (List.getElem?_eq_some_iff.mp hq).1
            · cases hx
          exact xNx_1 h5 hl (xRL_sv (xRL_ext hA) ⟨by rw [← hl]; exact xl_new _, rfl⟩ hj) (xRS_ext hS) hF hd
        · cases hh
      · cases h2
    · cases h1
  · -- ineg
    cases h1
    obtain ⟨pc', L', t', h2, rfl⟩ := x_pure hone rfl rfl rfl
    simp only [zz_da] at h2
    split at h2
    · rename_i x s
      cases h2
      exact x_1_ok hh hl hA hS hF hd (fun a t2 e => by
        cases e
        exact ⟨_, rfl, rfl, Int32.toInt_neg x⟩)
    · cases h2
  · -- l2i
    cases h1
    obtain ⟨pc', L', t', h2, rfl⟩ := x_pure hone rfl rfl rfl
    simp only [zz_da] at h2
    split at h2
    · rename_i x s
      cases h2
      exact x_1_ok hh hl hA hS hF hd (fun a t2 e => by
        cases e
        exact ⟨_, rfl, rfl, Int64.toInt_toInt32 x⟩)
    · cases h2
  · -- i2l
    cases h1
    obtain ⟨pc', L', t', h2, rfl⟩ := x_pure hone rfl rfl rfl
    simp only [zz_da] at h2
    split at h2
    · rename_i x s
      cases h2
      dsimp only at hh
      split at hh
      · rename_i τ y s'
        obtain ⟨u, t2, h3, hu, hS2⟩ := xRS_cons hS
        cases h3
        rw [t_fn_eq] at hh
        exact xNx_0 hh hl hA ⟨⟨by rw [show fv (Value.long x.toInt64) = x.toInt64.toInt from rfl, Int32.toInt_toInt64]; exact hu.1, rfl⟩, hS2⟩ hF hd
      · cases hh
    · cases h2
  · -- dup
    cases h1
    obtain ⟨pc', L', t', h2, rfl⟩ := x_pure hone rfl rfl rfl
    simp only [zz_da] at h2
    split at h2
    · rename_i v s
      split at h2
      · cases h2
        dsimp only at hh
        split at hh
        · obtain ⟨u, t2, h3, hu, hS2⟩ := xRS_cons hS
          cases h3
          rw [t_fn_eq] at hh
          exact xNx_0 hh hl hA ⟨hu, hu, hS2⟩ hF hd
        · cases hh
      · cases h2
    · cases h2
  · -- dup2
    cases h1
    obtain ⟨pc', L', t', h2, rfl⟩ := x_pure hone rfl rfl rfl
    simp only [zz_da] at h2
    split at h2
    · rename_i v w s
      split at h2
      · cases h2
        dsimp only at hh
        split at hh
        · obtain ⟨u, t2, h3, hu, hS2⟩ := xRS_cons hS
          obtain ⟨u2, t3, h4, hu2, hS3⟩ := xRS_cons hS2
          cases h3
          cases h4
          rw [t_fn_eq] at hh
          exact xNx_0 hh hl hA ⟨hu, hu2, hu, hu2, hS3⟩ hF hd
        · cases hh
      · cases h2
    · cases h2
  · -- pop
    cases h1
    obtain ⟨pc', L', t', h2, rfl⟩ := x_pure hone rfl rfl rfl
    simp only [zz_da] at h2
    split at h2
    · rename_i v s
      split at h2
      · cases h2
        dsimp only at hh
        split at hh
        · obtain ⟨u, t2, h3, hu, hS2⟩ := xRS_cons hS
          cases h3
          rw [t_fn_eq] at hh
          exact xNx_0 hh hl hA hS2 hF hd
        · cases hh
      · cases h2
    · cases h2
  · -- goto
    cases h1
    obtain ⟨pc', L', t', h2, rfl⟩ := x_pure hone rfl rfl rfl
    simp only [zz_da] at h2
    obtain ⟨tt, h3, h4⟩ := x_go_ok hh
    rw [h3] at h2
    cases h2
    exact xNx_0 h4 hl hA hS hF hd
  · -- ifCond
    rename_i op off
    cases h1
    obtain ⟨pc', L', t', h2, rfl⟩ := x_pure hone rfl rfl rfl
    simp only [zz_da] at h2
    split at h2
    · rename_i x s
      rw [t_if_rel] at h2
      dsimp only at hh
      split at hh
      · rename_i τ y s'
        obtain ⟨u, t2, h3, hu, hS2⟩ := xRS_cons hS
        cases h3
        obtain ⟨rfl, rfl, T', h5, h6⟩ := x_bo_ok hh hu.1 (show xl ρ (.inr 0) 0 from rfl) hd h2
        exact xNx_0 h5 hl hA hS2 hF h6
      · cases hh
    · cases h2
  · -- if_icmp
    rename_i op off
    cases h1
    obtain ⟨pc', L', t', h2, rfl⟩ := x_pure hone rfl rfl rfl
    simp only [zz_da] at h2
    split at h2
    · rename_i y x s
      rw [t_ic_rel] at h2
      dsimp only at hh
      split at hh
      · rename_i τ y' τ2 x' s'
        obtain ⟨u, t2, h3, hu, hS2⟩ := xRS_cons hS
        obtain ⟨u2, t3, h4, hu2, hS3⟩ := xRS_cons hS2
        cases h3
        cases h4
        obtain ⟨rfl, rfl, T', h5, h6⟩ := x_bo_ok hh hu2.1 hu.1 hd h2
        exact xNx_0 h5 hl hA hS3 hF h6
      · cases hh
    · cases h2
  · -- tableswitch
    rename_i d lo hi offs
    cases h1
    obtain ⟨pc', L', t', h2, rfl⟩ := x_pure hone rfl rfl rfl
    simp only [zz_da] at h2
    split at h2
    · rename_i x s
      dsimp only at hh
      split at hh
      · rename_i τ x' s'
        obtain ⟨u, t2, h3, hu, hS2⟩ := xRS_cons hS
        cases h3
        split at hh
        · rename_i hlen
          rw [t_eq_iff, t_len_eq] at hlen
          have hlen : hi - lo = (offs.toList.length : Int) - 1 := hlen
          obtain ⟨T', tt, h5, h6, h7⟩ := x_cs_ok hu.1 hh hd
          rw [x_fst_ts] at h5
          have hx : fv (Value.int x) = x.toInt := rfl
          rw [hx] at h5
          by_cases hc : x.toInt < lo ∨ hi < x.toInt
          · rw [if_pos hc] at h2
            rw [if_pos (by omega)] at h5
            rw [h5] at h2
            cases h2
            exact xNx_0 h6 hl hA hS2 hF h7
          · rw [if_neg hc] at h2
            rw [if_neg (by omega)] at h5
            rw [Array.getElem?_toList] at h5
            split at h2
            · rename_i off ho
              rw [ho] at h5
              rw [show ((some off : Option Int).getD d) = off from rfl] at h5
              rw [h5] at h2
              cases h2
              exact xNx_0 h6 hl hA hS2 hF h7
            · cases h2
        · cases hh
      · cases hh
    · cases h2
  · -- lookupswitch
    rename_i d ps
    cases h1
    obtain ⟨pc', L', t', h2, rfl⟩ := x_pure hone rfl rfl rfl
    simp only [zz_da] at h2
    split at h2
    · rename_i x s
      dsimp only at hh
      split at hh
      · rename_i τ x' s'
        obtain ⟨u, t2, h3, hu, hS2⟩ := xRS_cons hS
        cases h3
        split at h2
        · obtain ⟨T', tt, h5, h6, h7⟩ := x_cs_ok hu.1 hh hd
          rw [x_fst_ls] at h5
          have hx : fv (Value.int x) = x.toInt := rfl
          rw [hx] at h5
          rw [h5] at h2
          cases h2
          exact xNx_0 h6 hl hA hS2 hF h7
        · cases h2
      · cases hh
    · cases h2
  · cases h1
    exact x_getf_ok hone hh hl hA hS hF hd
  · cases h1
    exact x_putf_ok hone hh hl hA hS hF hd
  · cases h1
    dsimp only at hh
    split at hh
    · exact x_ild_ok (kk := fun _ _ _ => True) hone rfl hh hl hA hS hF hd
    · cases hh
  · cases h1
    dsimp only at hh
    split at hh
    · exact x_ist_ok hone rfl hh hl hA hS hF hd
    · cases hh
  · cases h1
    exact x_ald_ok hone hh hl hA hS hF hd
  · cases h1
    dsimp only at hh
    split at hh
    · split at hh
      · cases hh
      · rename_i hr
        split at hh
        · exact x_ast_ok hone hr rfl hh hl hA hS hF hd
        · cases hh
    · cases hh
  · cases h1
    dsimp only at hh
    split at hh
    · exact x_aln_ok hone rfl hh hl hA hS hF hd
    · cases hh
  · split at h1
    · rename_i o τ har
      cases h1
      exact x_ar_ok har hone hh hl hA hS hF hd
    · cases h1
theorem x_op_nr {f : xX} {t : List Value} {cs : zz_W} {r : List Nat} {ret : Option FieldType} (h1 : x_op ins = some f) : zz_rt1 ins ret t = none ∧ zz_ca ins r t cs = none := by
  constructor
  · unfold zz_rt1
    split
    · cases h1
    · cases h1
    · cases h1
    · rfl
  · unfold zz_ca
    split
    · cases h1
    · cases h1
    · cases h1
    · rfl
end XS3
end
section
/-! the check of trees is sound: calls, whole walks, methods -/
noncomputable def xRv (ρ : List Int) (a : Option xV) (v : Option Value) : Prop := match a with
  | none => v = none
  | some q => ∃ u, v = some u ∧ xr ρ q u
noncomputable def xLV : List (Nat × Nat) → List Int → List (Option Value) → Prop
  | [], [], _ => True
  | q :: r, z :: zs, L => (∀ u, zz_ld L q.1 = some u → fv u = z ∧ xtB q.2 u) ∧ xLV r zs L
  | _, _, _ => False
noncomputable def xKH (I : Nat → List Int → fH → Prop) (Q : Int → fH → Prop) (ρ : List Int) (cs' : zz_W) (v : Option Value) (K : xQ) (C : Prop) : Prop := ∀ (a : Option xV) (ρ2 : List Int) (T' : xT), K a (ρ ++ ρ2).length T' = true → xRv (ρ ++ ρ2) a v → fFX cs' → xd I Q T' 0 (ρ ++ ρ2) (fh cs') → C
noncomputable def xHH (I : Nat → List Int → fH → Prop) (hd : xHd) (mi : zz_Mi) (m : Nat) (v : Option Value) (cs' : zz_W) (C : Prop) : Prop := ∀ (i : Nat) (e : Nat × List (Nat × Nat)) (m' : Nat) (L' : List (Option Value)) (cs1 : zz_W) (cu' su' : Nat) (vals : List Int), hd[i]? = some e → m' ≤ m → zz_ev m' mi (e.1, L', [], cs1, cu', su') = some (v, cs') → fFX cs1 → L'.length = mi.2.2.1 → xLV e.2 vals L' → I i vals (fh cs1) → C
noncomputable def xOK (h : xH) : Prop := ∀ (hd : xHd) (mi : zz_Mi) (pc : Nat) (A : xL) (st : xS) (lvl : Nat) (T : xT) (K : xQ), h hd mi pc A st lvl T K = true → f_okM mi = true → ∀ (ρ : List Int) (L : List (Option Value)) (t : List Value) (cs : zz_W) (cu su m : Nat) (v : Option Value) (cs' : zz_W) (I : Nat → List Int → fH → Prop) (Q : Int → fH → Prop) (C : Prop), ρ.length = lvl → xRL ρ A L → xRS ρ st t → fFX cs → zz_ev m mi (pc, L, t, cs, cu, su) = some (v, cs') → xd I Q T 0 ρ (fh cs) → xKH I Q ρ cs' v K C → xHH I hd mi m v cs' C → C
section XS4
variable {ρ ρ2 : List Int} {I : Nat → List Int → fH → Prop} {Q : Int → fH → Prop} {T : xT} {A : xL} {L : List (Option Value)} {st : xS} {t : List Value} {cs cs' : zz_W} {mi mj : zz_Mi} {hd : xHd} {pc lvl cu su m k : Nat} {K : xQ} {C : Prop} {v : Option Value}
theorem xKH.ext (h : xKH I Q ρ cs' v K C) : xKH I Q (ρ ++ ρ2) cs' v K C := fun a ρ3 T' h1 h2 h3 h4 => by
  rw [List.append_assoc] at h1 h2 h4
  exact h a (ρ2 ++ ρ3) T' h1 h2 h3 h4
theorem xHH.mono {m' : Nat} (h : xHH I hd mi m v cs' C) (hm : m' ≤ m) : xHH I hd mi m' v cs' C := fun i e n L' cs1 cu' su' vals h1 h2 => h i e n L' cs1 cu' su' vals h1 (Nat.le_trans h2 hm)
theorem xRS_nil {t : List Value} (h : xRS ρ [] t) : t = [] := by
  match t, h with
  | [], _ => rfl
theorem xRS_app : ∀ {s : xS} {t : List Value} {s2 : xS} {t2 : List Value}, xRS ρ s t → xRS ρ s2 t2 → xRS ρ (s ++ s2) (t ++ t2)
  | [], [], _, _, _, h2 => h2
  | _ :: _, _ :: _, _, _, h, h2 => ⟨h.1, xRS_app h.2 h2⟩
theorem xRS_spl : ∀ {s1 s2 : xS} {t : List Value}, xRS ρ (s1 ++ s2) t → xRS ρ s1 (t.take s1.length) ∧ xRS ρ s2 (t.drop s1.length)
  | [], _, _, h => ⟨by simp only [List.length_nil, List.take_zero]; trivial, h⟩
  | _ :: _, _, _ :: _, h => ⟨⟨h.1, (xRS_spl h.2).1⟩, (xRS_spl h.2).2⟩
theorem xRS_rev : ∀ {s : xS} {t : List Value}, xRS ρ s t → xRS ρ s.reverse t.reverse
  | [], [], _ => trivial
  | _ :: _, _ :: _, h => by
    rw [List.reverse_cons, List.reverse_cons]
    exact xRS_app (xRS_rev h.2) ⟨h.1, trivial⟩
theorem xRS_nth : ∀ {s : xS} {t : List Value} {i : Nat} {q : xV}, xRS ρ s t → s[i]? = some q → ∃ u, t[i]? = some u ∧ xr ρ q u
  | [], _, _, _, _, h => by cases h
  | _ :: _, u :: _, 0, _, h, h2 => by
    cases h2
    exact ⟨u, rfl, h.1⟩
  | _ :: _, _ :: _, i + 1, _, h, h2 => by
    simp only [List.getElem?_cons_succ] at h2 ⊢
    exact xRS_nth h.2 h2
theorem x_spl_ok {kk : xS → xS → Bool} : ∀ {n : Nat} {st acc : xS}, x_spl n st acc kk = true → ∃ s1 rest, st = s1 ++ rest ∧ s1.length = n ∧ kk (s1.reverse ++ acc) rest = true
  | 0, st, acc, h => ⟨[], st, rfl, rfl, h⟩
  | n + 1, [], acc, h => by cases h
  | n + 1, w :: st, acc, h => by
    have h : x_spl n st (w :: acc) kk = true := h
    obtain ⟨s1, rest, h1, h2, h3⟩ := x_spl_ok h
    refine ⟨w :: s1, rest, by rw [h1]; rfl, by rw [List.length_cons, h2], ?_⟩
    rw [List.reverse_cons, List.append_assoc]
    exact h3
theorem x_tgs_ok : ∀ {ts : List Nat} {args : xS} {us : List Value}, x_tgs ts args = true → xRS ρ args us → xTs ts us
  | [], [], [], _, _ => trivial
  | [], _ :: _, _, h, _ => by cases h
  | _ :: _, [], _, h, _ => by cases h
  | τ :: ts, w :: args, u :: us, h, hS => by
    have h : (match Nat.beq τ w.1 with
      | true => x_tgs ts args
      | false => match Nat.beq τ 0 with
        | true => match Nat.ble 2 w.1 with
          | true => x_tgs ts args
          | false => false
        | false => false) = true := h
    split at h
    · rename_i h1
      have e := Nat.eq_of_beq_eq_true h1
      refine ⟨?_, x_tgs_ok h hS.2⟩
      rw [e]
      exact hS.1.2
    · obtain ⟨h2, h⟩ := t_bool h
      obtain ⟨h3, h⟩ := t_bool h
      have e := Nat.eq_of_beq_eq_true h2
      have h3 := Nat.le_of_ble_eq_true h3
      refine ⟨?_, x_tgs_ok h hS.2⟩
      rw [e]
      exact xtB_0 hS.1.2 (by omega)
theorem x_ops_ok : ∀ {args : xS} {us : List Value}, xRS ρ args us → us.map fv = xes ρ (x_ops args)
  | [], [], _ => rfl
  | w :: args, u :: us, h => by
    show fv u :: us.map fv = xe ρ w.2 :: xes ρ (x_ops args)
    rw [xe_of h.1.1, x_ops_ok h.2]
theorem xRL_c {w : xV} {u : Value} (h1 : xr ρ w u) (h : xRL ρ A L) : xRL ρ (some w :: A) (some u :: L) := ⟨by rw [List.length_cons, List.length_cons, h.1], fun i x hi => by
  match i with
  | 0 =>
    have e : some u = some x := hi
    cases e
    exact ⟨some w, rfl, fun q' hq => by cases hq; exact h1⟩
  | i + 1 => exact h.2 i x hi⟩
theorem xRL_n (h : xRL ρ A L) : xRL ρ (none :: A) (none :: L) := ⟨by rw [List.length_cons, List.length_cons, h.1], fun i x hi => by
  match i with
  | 0 => cases hi
  | i + 1 => exact h.2 i x hi⟩
theorem xRL_rep : ∀ n : Nat, xRL ρ (List.replicate n none) (List.replicate n none)
  | 0 => ⟨rfl, fun i u h => by cases h⟩
  | n + 1 => by
    rw [List.replicate_succ, List.replicate_succ]
    exact xRL_n (xRL_rep n)
theorem zz_ent_c (n : Nat) (u : Value) (us : List Value) : zz_ent n (u :: us) = if u.category = 2 then some u :: none :: zz_ent (n - 1 - 1) us else some u :: zz_ent (n - 1) us := by
  unfold zz_ent
  show (if u.category = 2 then some u :: none :: zz_en us else some u :: zz_en us) ++ _ = _
  have e : zz_en (u :: us) = if u.category = 2 then some u :: none :: zz_en us else some u :: zz_en us := rfl
  rw [e]
  split
  · rw [List.cons_append, List.cons_append, List.length_cons, List.length_cons, show n - ((zz_en us).length + 1 + 1) = n - 1 - 1 - (zz_en us).length by omega]
  · rw [List.cons_append, List.length_cons, show n - ((zz_en us).length + 1) = n - 1 - (zz_en us).length by omega]
theorem x_ent_c (n : Nat) (w : xV) (args : xS) : x_ent (w :: args) n = match w.1 with
  | 1 => some w :: none :: x_ent args (n - 1 - 1)
  | _ => some w :: x_ent args (n - 1) := rfl
theorem x_rep : ∀ n : Nat, x_ent [] n = List.replicate n none
  | 0 => rfl
  | n + 1 => by
    rw [List.replicate_succ, ← x_rep n]
    rfl
theorem x_ent_ok : ∀ {args : xS} {us : List Value} (n : Nat), xRS ρ args us → xRL ρ (x_ent args n) (zz_ent n us)
  | [], [], n, _ => by
    rw [x_rep]
    exact xRL_rep n
  | w :: args, u :: us, n, h => by
    rw [x_ent_c, zz_ent_c]
    split
    · rename_i hw
      have hc := h.1.2
      rw [hw] at hc
      rw [if_pos (show u.category = 2 from hc)]
      exact xRL_c h.1 (xRL_n (x_ent_ok _ h.2))
    · rename_i hw
      have hc := xtB_0 h.1.2 hw
      rw [if_neg (by rw [show u.category = 1 from hc]; decide)]
      exact xRL_c h.1 (x_ent_ok _ h.2)
theorem x_live_ok : ∀ {lv : List (Nat × Nat)} {as : List xO}, x_live A lv as = true → xRL ρ A L → xLV lv (xes ρ as) L
  | [], [], _, _ => trivial
  | [], _ :: _, h, _ => by cases h
  | _ :: _, [], h, _ => by cases h
  | e :: lv, o :: as, h, hA => by
    have h : (match t_nth A e.1 with
      | some (some (τ, o')) => match t_and (xob o' o) (match Nat.beq τ e.2 with
        | true => true
        | false => t_and (Nat.beq e.2 0) (Nat.ble 2 τ)) with
        | true => x_live A lv as
        | false => false
      | _ => false) = true := h
    rw [t_nth_eq] at h
    split at h
    · rename_i τ o' hq
      obtain ⟨h1, h2⟩ := t_bool h
      rw [t_and_iff] at h1
      refine ⟨fun u hu => ?_, x_live_ok h2 hA⟩
      obtain ⟨y, h3, h4⟩ := hA.2 e.1 u hu
      rw [hq] at h3
      cases h3
      have h5 := h4 (τ, o') rfl
      refine ⟨?_, ?_⟩
      · rw [← xob_ok h1.1]
        exact (xe_of h5.1).symm
      · have h6 := h1.2
        split at h6
        · rename_i hb
          rw [← Nat.eq_of_beq_eq_true hb]
          exact h5.2
        · rw [t_and_iff] at h6
          rw [Nat.eq_of_beq_eq_true h6.1]
          have := Nat.le_of_ble_eq_true h6.2
          exact xtB_0 h5.2 (by omega)
    · cases h
theorem x_jmp_ok (h : x_jmp hd mi pc A st T = true) (hA : xRL ρ A L) (hS : xRS ρ st t) (hF : fFX cs) (hev : zz_ev m mi (pc, L, t, cs, cu, su) = some (v, cs')) (hD : xd I Q T 0 ρ (fh cs)) (hH : xHH I hd mi m v cs' C) : C := by
  unfold x_jmp at h
  split at h
  · have ht := xRS_nil hS
    subst ht
    split at h
    · rename_i as i z T'
      rw [t_nth_eq] at h
      split at h
      · rename_i p lv hi
        simp only [t_and_iff] at h
        obtain ⟨h1, h2, h3⟩ := h
        have e1 := Nat.eq_of_beq_eq_true h1
        have e2 := Nat.eq_of_beq_eq_true h2
        rw [t_len_eq] at e2
        subst e1
        have hD : I i (xes ρ as) (fh cs) := hD
        exact hH i (p, lv) m L cs cu su (xes ρ as) hi (Nat.le_refl _) hev hF (by rw [← hA.1]; exact e2) (x_live_ok h3 hA) hD
      · cases h
    · cases h
  · cases h
theorem x_cal_ok {ih : xH} (hO : xOK ih) (h : x_cal ih hd mi k pc A st lvl T K = true) (ho : f_okM mi = true) (hl : ρ.length = lvl) (hA : xRL ρ A L) (hS : xRS ρ st t) (hF : fFX cs) (hk : zz_mts[k]? = some mj) {w : Option Value} {cs1 : zz_W} {cu' su' m0 : Nat} (h1 : zz_ev m0 mj (0, zz_ent mj.2.2.1 (t.take (zz_cn mj)).reverse, [], cs, 0, 0) = some (w, cs1)) (h2 : zz_ev m0 mi (pc + 3, L, w.toList ++ t.drop (zz_cn mj), cs1, cu', su') = some (v, cs')) (hD : xd I Q T 0 ρ (fh cs)) (hK : xKH I Q ρ cs' v K C) (hH : xHH I hd mi m0 v cs' C) : C := by
  unfold x_cal at h
  rw [t_nth_eq, hk] at h
  dsimp only at h
  split at h
  · cases h
  · rename_i hok
    have hom := f_okm hk hok
    obtain ⟨s1, rest, rfl, hn, h⟩ := x_spl_ok h
    rw [List.append_nil] at h
    obtain ⟨hS1, hS2⟩ := xRS_spl hS
    rw [hn] at hS1 hS2
    have hSa := xRS_rev hS1
    match T, h, hD with
    | [], h, _ => cases h
    | (n1, as, n3, n4) :: T', h, hD =>
      dsimp only at h
      split at h
      · rename_i hnd
        rw [t_and_iff] at hnd
        have e1 : n1 = 13 := Nat.eq_of_beq_eq_true hnd.1
        have e2 : n3 = k := Nat.eq_of_beq_eq_true hnd.2
        subst e1
        subst e2
        rw [t_nth_eq] at h
        split at h
        · cases h
        · rename_i ts hts
          obtain ⟨h3, h9⟩ := t_bool h
          rw [t_and_iff] at h3
          have e3 : as = x_ops s1.reverse := xobs_ok h3.2
          subst e3
          rw [t_fn_eq, t_fn_eq] at h9
          have hD : ∀ (v : Int) (h' : fH), fS n3 (xes ρ (x_ops s1.reverse)) (fh cs) v h' → xd I Q T' 0 (ρ ++ [v]) h' := hD
          have hD2 := hD (fvo w) (fh cs1) ⟨mj, m0, (t.take (zz_cn mj)).reverse, cs, w, cs1, hk, hok, hF, h1, by rw [hts]; exact x_tgs_ok h3.1 hSa, x_ops_ok hSa, rfl, rfl, rfl⟩
          have hF1 := fx_ev m0 mj _ _ _ cs _ _ w cs1 hom hF h1
          have hr := f_ret_ev m0 mj _ w cs1 h1
          have hl2 : (ρ ++ [fvo w]).length = lvl + 1 := by rw [List.length_append, hl]; rfl
          split at h9
          · rename_i hrt
            rw [hrt] at hr
            have hr : w = none := hr
            subst hr
            exact hO hd mi _ A rest _ T' K h9 ho _ L _ cs1 cu' su' m0 v cs' I Q C hl2 (xRL_ext hA) (xRS_ext hS2) hF1 h2 hD2 hK.ext hH
          · rename_i τ hrt
            have hw : ∃ u, w = some u ∧ xtB τ u := by
              rw [hrt] at hr
              unfold f_rtg at hrt
              split at hrt
              · cases hrt
              · cases hrt
                exact hr
              · cases hrt
                exact hr
            obtain ⟨u, rfl, hu⟩ := hw
            exact hO hd mi _ A _ _ T' K h9 ho _ L (u :: t.drop (zz_cn mj)) cs1 cu' su' m0 v cs' I Q C hl2 (xRL_ext hA) ⟨⟨by rw [← hl]; exact xl_new _, hu⟩, xRS_ext hS2⟩ hF1 h2 hD2 hK.ext hH
      · refine hO [] mj 0 _ [] lvl _ _ h hom ρ _ [] cs 0 0 m0 w cs1 I Q C hl (x_ent_ok _ hSa) trivial hF h1 hD ?_ (fun i e m' L' cs1 cu' su' vals q => by cases q)
        intro a ρ3 T2 h3 h4 h5 h6
        dsimp only at h3
        rw [t_fn_eq] at h3
        refine hO hd mi _ A _ _ T2 K h3 ho _ L _ cs1 cu' su' m0 v cs' I Q C rfl (xRL_ext hA) ?_ h5 h2 h6 hK.ext hH
        match a, h4 with
        | none, h4 =>
          have h4 : w = none := h4
          subst h4
          exact xRS_ext hS2
        | some q, ⟨u, h4, h7⟩ =>
          subst h4
          exact ⟨h7, xRS_ext hS2⟩
noncomputable def f_kB : Bool := (List.range 6).all (fun c => (match f_ct[5 + c]? with
  | some (a, ci, _) => Nat.beq a 2 && Nat.beq ci (1 + c)
  | none => false) && (List.range 298).all (fun i => match f_ct[i]? with
  | some (a, ci, _) => !(Nat.beq a 2 && Nat.beq ci (1 + c)) || Nat.beq i (5 + c)
  | none => true))
noncomputable def f_kBq : Bool := (List.range 6).all (fun c => (match zz_pth f_ct (5 + c) with
  | some (a, ci, _) => Nat.beq a 2 && Nat.beq ci (1 + c)
  | none => false) && (List.range 298).all (fun i => match zz_pth f_ct i with
  | some (a, ci, _) => !(Nat.beq a 2 && Nat.beq ci (1 + c)) || Nat.beq i (5 + c)
  | none => true))
set_option maxRecDepth 1000000 in
theorem f_c4q : f_kBq = true := by decide +kernel
theorem f_c4 : f_kB = true := by
  have h := f_c4q
  unfold f_kBq at h
  unfold f_kB
  simp only [zz_pth_eq, ← f_tgBe] at h
  exact h
theorem f_kin {i ci n c : Nat} (hi : f_ct[i]? = some (2, ci, n)) (h1 : 1 ≤ c) (h6 : c ≤ 6) : ci = c ↔ i = 4 + c := by
  have h := List.all_eq_true.mp f_c4 (c - 1) (List.mem_range.mpr (by omega))
  rw [Bool.and_eq_true] at h
  have e : 5 + (c - 1) = 4 + c := by omega
  have e2 : 1 + (c - 1) = c := by omega
  rw [e, e2] at h
  constructor
  · rintro rfl
    have h3 := List.all_eq_true.mp h.2 i (f_lt hi)
    rw [hi] at h3
    simp only [Nat.beq_refl, Bool.and_self, Bool.not_true, Bool.false_or] at h3
    exact Nat.eq_of_beq_eq_true h3
  · rintro rfl
    have h3 := h.1
    rw [hi] at h3
    simp only [Bool.and_eq_true] at h3
    exact Nat.eq_of_beq_eq_true h3.2
theorem x_pol_ok {ih : Nat → xT → Bool} {o : xO} {i ci n' k' w : Nat} (hi : f_ct[i]? = some (2, ci, n')) (ho : xl ρ o (i : Int)) {h : fH} : ∀ {n : Nat} {alts : List Nat} {T : xT}, x_pol ih o alts n T = true → zz_alt ci alts = some (k', w) → xd I Q T 0 ρ h → ∃ T', ih k' T' = true ∧ xd I Q T' 0 ρ h
  | 0, _, _, hh, _, _ => by cases hh
  | n + 1, [], T, hh, ha, _ => by cases ha
  | n + 1, [_], T, hh, ha, _ => by cases ha
  | n + 1, [_, _], T, hh, ha, _ => by cases ha
  | n + 1, c :: k :: w' :: r, T, hh, ha, hD => by
    have hh : (match t_and (Nat.ble 1 c) (Nat.ble c 6) with
      | true => x_if .eq o (.inr (Int.ofNat (Nat.add 4 c))) T (ih k) (x_pol ih o r n)
      | false => false) = true := hh
    obtain ⟨h1, h2⟩ := t_bool hh
    rw [t_and_iff] at h1
    have hk := f_kin hi (Nat.le_of_ble_eq_true h1.1) (Nat.le_of_ble_eq_true h1.2)
    obtain ⟨h3, h4⟩ := x_if_ok h2 ho (show xl ρ (.inr (Int.ofNat (Nat.add 4 c))) (Int.ofNat (Nat.add 4 c)) from rfl) hD
    unfold zz_alt at ha
    split at ha
    · rename_i hq
      cases ha
      have e := hk.mp (Nat.eq_of_beq_eq_true hq).symm
      exact h3 (by simp only [t_rel, decide_eq_true_eq]; rw [e]; rfl)
    · rename_i hq
      have hne : ¬ ci = c := fun e => by
        subst e
        rw [Nat.beq_refl] at hq
        cases hq
      obtain ⟨T', h5, h6⟩ := h4 (by
        simp only [t_rel, decide_eq_false_iff_not]
        intro e
        exact hne (hk.mpr (Int.ofNat.inj e)))
      exact x_pol_ok hi ho h5 ha h6
theorem x_inv_ok {ih : xH} (hO : xOK ih) {ins : Instr} {r : List Nat} (h : x_inv ih hd mi ins r pc A st lvl T K = true) (ho : f_okM mi = true) (hl : ρ.length = lvl) (hA : xRL ρ A L) (hS : xRS ρ st t) (hF : fFX cs) (hca : zz_ca ins r t cs = some mj) {w : Option Value} {cs1 : zz_W} {cu' su' m0 : Nat} (h1 : zz_ev m0 mj (0, zz_ent mj.2.2.1 (t.take (zz_cn mj)).reverse, [], cs, 0, 0) = some (w, cs1)) (h2 : zz_ev m0 mi (pc + 3, L, w.toList ++ t.drop (zz_cn mj), cs1, cu', su') = some (v, cs')) (hD : xd I Q T 0 ρ (fh cs)) (hK : xKH I Q ρ cs' v K C) (hH : xHH I hd mi m0 v cs' C) : C := by
  unfold x_inv at h
  split at h
  · split at h
    · exact x_cal_ok hO h ho hl hA hS hF hca h1 h2 hD hK hH
    · exact x_cal_ok hO h ho hl hA hS hF hca h1 h2 hD hK hH
    · cases h
  · split at h
    · simp only [zz_ca] at hca
      split at hca
      · rename_i hm
        split at hca
        · cases hca
          exact x_cal_ok hO h ho hl hA hS hF hm h1 h2 hD hK hH
        · cases hca
      · cases hca
    · simp only [zz_ca] at hca
      split at hca
      · rename_i hm
        split at hca
        · cases hca
          exact x_cal_ok hO h ho hl hA hS hF hm h1 h2 hD hK hH
        · cases hca
      · cases hca
    · cases h
  · split at h
    · simp only [zz_ca] at hca
      split at hca
      · rename_i hm
        split at hca
        · split at hca
          · cases hca
            exact x_cal_ok hO h ho hl hA hS hF hm h1 h2 hD hK hH
          · cases hca
        · cases hca
      · cases hca
    · simp only [zz_ca] at hca
      split at hca
      · rename_i hm
        split at hca
        · split at hca
          · cases hca
            exact x_cal_ok hO h ho hl hA hS hF hm h1 h2 hD hK hH
          · cases hca
        · cases hca
      · cases hca
    · rename_i k0 w1 w2 alts
      simp only [zz_ca] at hca
      rw [t_nth_eq] at h
      split at hca
      · rename_i mx hm
        rw [hm] at h
        dsimp only at h
        rw [t_nth_eq] at h
        split at hca
        · rename_i cj hrc
          split at hca
          · rename_i k' w' halt
            split at hca
            · rename_i mi' hm'
              split at hca
              · cases hca
                split at h
                · rename_i τ o hst
                  obtain ⟨u, hu1, hu2⟩ := xRS_nth hS hst
                  unfold zz_rc at hrc
                  rw [hu1] at hrc
                  split at hrc
                  · rename_i i heq
                    cases heq
                    split at hrc
                    · rename_i ci fs hc
                      cases hrc
                      obtain ⟨T', h5, h6⟩ := x_pol_ok (f_obj hF hc).1 hu2.1 h halt hD
                      exact x_cal_ok hO h5 ho hl hA hS hF hm' h1 h2 h6 hK hH
                    · cases hrc
                  · cases hrc
                · cases h
              · cases hca
            · cases hca
          · cases hca
        · cases hca
      · cases hca
    · cases h
  · cases h
theorem x_inv_no {ih : xH} {ins : Instr} {r : List Nat} {q : Nat × Nat × Nat × Nat} {p len : Nat} {v0 : Value} (h : x_inv ih hd mi ins r pc A st lvl T K = true) : zz_one q (p, ins, len, r, v0) (pc, L, t, cs, cu, su) = none ∧ ∀ ret : Option FieldType, zz_rt1 ins ret t = none := by
  unfold x_inv at h
  split at h
  · split at h
    · exact ⟨rfl, fun _ => rfl⟩
    · exact ⟨rfl, fun _ => rfl⟩
    · cases h
  · split at h
    · exact ⟨rfl, fun _ => rfl⟩
    · exact ⟨rfl, fun _ => rfl⟩
    · cases h
  · split at h
    · exact ⟨rfl, fun _ => rfl⟩
    · exact ⟨rfl, fun _ => rfl⟩
    · exact ⟨rfl, fun _ => rfl⟩
    · cases h
  · cases h
theorem x_body_ok {ih : xH} (hO : xOK ih) (h : x_body ih hd mi pc A st lvl T K = true) (ho : f_okM mi = true) (hl : ρ.length = lvl) (hA : xRL ρ A L) (hS : xRS ρ st t) (hF : fFX cs) (hev : zz_ev (m + 1) mi (pc, L, t, cs, cu, su) = some (v, cs')) (hD : xd I Q T 0 ρ (fh cs)) (hK : xKH I Q ρ cs' v K C) (hH : xHH I hd mi m v cs' C) : C := by
  obtain ⟨m0, e, hm, he, hcut⟩ := f_cut hev
  have e0 : m0 = m := by omega
  subst e0
  unfold x_body at h
  rw [t_fetch_eq, he] at h
  obtain ⟨p, ins, len, r, v0⟩ := e
  dsimp only at h hcut
  have hgo : ∀ σ', zz_ev m0 mi σ' = some (v, cs') → xNx (fun pc' A' st' l T' => ih hd mi pc' A' st' l T' K) I Q ρ cu su σ' → C := by
    rintro σ' h1 ⟨ρ2, pc', A', st', T', L', t', cs1, rfl, h2, h3, h4, h5, h6⟩
    exact hO hd mi pc' A' st' _ T' K h2 ho (ρ ++ ρ2) L' t' cs1 cu su m0 v cs' I Q C rfl h3 h4 h5 h1 h6 hK.ext hH
  have hinv : x_inv ih hd mi ins r pc A st lvl T K = true → C := by
    intro hi
    obtain ⟨g1, g2⟩ := x_inv_no (q := mi.2.2.2.2.2.2.1) (p := p) (len := len) (v0 := v0) (L := L) (t := t) (cs := cs) (cu := cu) (su := su) hi
    rcases hcut with ⟨σ', h1, -⟩ | ⟨-, h1, -⟩ | ⟨-, -, mj, w, cs1, h1, h2, h3⟩
    · rw [g1] at h1
      cases h1
    · rw [g2] at h1
      cases h1
    · exact x_inv_ok hO hi ho hl hA hS hF h1 h2 h3 hD hK hH
  split at h
  · split at h
    · rcases hcut with ⟨σ', h1, h2⟩ | ⟨-, h1, -⟩ | ⟨-, -, mj, w, cs1, h1, -⟩
      · exact hgo σ' h2 (x_na_ok h1 h hl hA hS hF hD)
      · cases h1
      · simp [zz_ca] at h1
    · exact hinv h
  · split at h
    · rename_i f hf
      rcases hcut with ⟨σ', h1, h2⟩ | ⟨-, h1, -⟩ | ⟨-, -, mj, w, cs1, h1, -⟩
      · exact hgo σ' h2 (x_op_ok hf h1 h hl hA hS hF hD)
      · rw [(x_op_nr (t := t) (cs := cs) (r := r) hf).1] at h1
        cases h1
      · rw [(x_op_nr (ret := none) hf).2] at h1
        cases h1
    · unfold x_ret at h
      split at h
      · split at h
        · rename_i q
          rcases hcut with ⟨σ', h1, h2⟩ | ⟨-, h1, h2⟩ | ⟨-, -, mj, w, cs1, h1, -⟩
          · cases h1
          · subst h2
            obtain ⟨u, t', rfl, hu, hS'⟩ := xRS_cons hS
            have e1 := xRS_nil hS'
            subst e1
            have hv : v = some u := by
              unfold zz_rt1 at h1
              dsimp only at h1
              split at h1
              · rename_i x heq
                cases heq
                split at h1
                · cases h1
                  rfl
                · split at h1
                  · cases h1
                    rfl
                  · cases h1
                · cases h1
              · cases h1
            exact hK (some q) [] T (by rw [List.append_nil, hl]; exact h) ⟨u, hv, by rw [List.append_nil]; exact hu⟩ hF (by rw [List.append_nil]; exact hD)
          · cases h1
        · cases h
      · split at h
        · rename_i q
          rcases hcut with ⟨σ', h1, h2⟩ | ⟨-, h1, h2⟩ | ⟨-, -, mj, w, cs1, h1, -⟩
          · cases h1
          · subst h2
            obtain ⟨u, t', rfl, hu, hS'⟩ := xRS_cons hS
            have e1 := xRS_nil hS'
            subst e1
            have hv : v = some u := by
              unfold zz_rt1 at h1
              dsimp only at h1
              split at h1
              · rename_i x heq
                cases heq
                split at h1
                · cases h1
                  rfl
                · cases h1
              · cases h1
            exact hK (some q) [] T (by rw [List.append_nil, hl]; exact h) ⟨u, hv, by rw [List.append_nil]; exact hu⟩ hF (by rw [List.append_nil]; exact hD)
          · cases h1
        · cases h
      · split at h
        · rcases hcut with ⟨σ', h1, h2⟩ | ⟨-, h1, h2⟩ | ⟨-, -, mj, w, cs1, h1, -⟩
          · cases h1
          · subst h2
            have e1 := xRS_nil hS
            subst e1
            have hv : v = none := by
              unfold zz_rt1 at h1
              dsimp only at h1
              split at h1
              · cases h1
                rfl
              · cases h1
            exact hK none [] T (by rw [List.append_nil, hl]; exact h) hv hF (by rw [List.append_nil]; exact hD)
          · cases h1
        · cases h
      · exact hinv h
theorem xc_ok : ∀ n : Nat, xOK (xc n)
  | 0 => fun hd mi pc A st lvl T K h => by cases h
  | n + 1 => fun hd mi pc A st lvl T K h ho ρ L t cs cu su m v cs' I Q C hl hA hS hF hev hD hK hH => by
    have h : (match x_hd hd pc with
      | true => x_jmp hd mi pc A st T
      | false => x_body (xc n) hd mi pc A st lvl T K) = true := h
    split at h
    · exact x_jmp_ok h hA hS hF hev hD hH
    · match m, hev, hH with
      | 0, hev, _ => cases hev
      | m + 1, hev, hH => exact x_body_ok (xc_ok n) h ho hl hA hS hF hev hD hK (hH.mono (Nat.le_succ m))
-- a method whole
theorem x_a0_ok : ∀ {ts : List Nat} {us : List Value} (pre : List Int), xTs ts us → xRS (pre ++ us.map fv) (List.rec (motive := fun _ => Nat → xS) (fun _ => []) (fun t _ ih i => t_fn i (fun i => (t, .inl i) :: ih (Nat.succ i))) ts pre.length) us
  | [], [], _, _ => trivial
  | τ :: ts, u :: us, pre, h => by
    show xRS (pre ++ (fv u :: us.map fv)) (t_fn pre.length (fun i => (τ, .inl i) :: _)) (u :: us)
    rw [t_fn_eq]
    refine ⟨⟨?_, h.1⟩, ?_⟩
    · show (pre ++ (fv u :: us.map fv))[pre.length]? = some (fv u)
      simp
    · have := x_a0_ok (ts := ts) (us := us) (pre ++ [fv u]) h.2
      rw [List.append_assoc, List.length_append] at this
      exact this
  | [], _ :: _, _, h => by cases h
  | _ :: _, [], _, h => by cases h
theorem xTs_len : ∀ {ts : List Nat} {us : List Value}, xTs ts us → ts.length = us.length
  | [], [], _ => rfl
  | _ :: _, _ :: _, h => congrArg (· + 1) (xTs_len h.2)
  | [], _ :: _, h => by cases h
  | _ :: _, [], h => by cases h
theorem x_A0_ok : ∀ {lv : List (Nat × Nat)} {vals : List Int} (pre : List Int) {A : xL}, xLV lv vals L → xRL (pre ++ vals) A L → xRL (pre ++ vals) (List.rec (motive := fun _ => Nat → xL → xL) (fun _ A => A) (fun q _ ih i A => t_fn i (fun i => ih (Nat.succ i) (A.set q.1 (some (q.2, .inl i))))) lv pre.length A) L
  | [], [], _, A, _, hA => hA
  | e :: lv, z :: vals, pre, A, h, hA => by
    show xRL _ (t_fn pre.length (fun i => List.rec (motive := fun _ => Nat → xL → xL) (fun _ A => A) (fun q _ ih i A => t_fn i (fun i => ih (Nat.succ i) (A.set q.1 (some (q.2, .inl i))))) lv (Nat.succ i) (A.set e.1 (some (e.2, .inl i))))) L
    rw [t_fn_eq]
    have h2 : xRL ((pre ++ [z]) ++ vals) (A.set e.1 (some (e.2, .inl pre.length))) L := by
      rw [List.append_assoc]
      refine ⟨by rw [List.length_set]; exact hA.1, fun i u hi => ?_⟩
      by_cases hq : i = e.1
      · subst hq
        obtain ⟨y, h3, h4⟩ := hA.2 e.1 u hi
        refine ⟨some (e.2, .inl pre.length), ?_, fun q' hq => ?_⟩
        · rw [List.getElem?_set, if_pos rfl, if_pos (List.getElem?_eq_some_iff.mp h3).1]
        · cases hq
          obtain ⟨g1, g2⟩ := h.1 u hi
          refine ⟨?_, g2⟩
          show (pre ++ ([z] ++ vals))[pre.length]? = some (fv u)
          rw [g1]
          simp
      · obtain ⟨y, h3, h4⟩ := hA.2 i u hi
        refine ⟨y, ?_, h4⟩
        rw [List.getElem?_set, if_neg (fun e2 => hq e2.symm)]
        exact h3
    have h5 := x_A0_ok (lv := lv) (vals := vals) (pre ++ [z]) h.2 h2
    rw [List.length_append, List.append_assoc] at h5
    exact h5
  | [], _ :: _, _, _, h, _ => by cases h
  | _ :: _, [], _, _, h, _ => by cases h
theorem xLV_len : ∀ {lv : List (Nat × Nat)} {vals : List Int} {L : List (Option Value)}, xLV lv vals L → lv.length = vals.length
  | [], [], _, _ => rfl
  | _ :: _, _ :: _, _, h => congrArg (· + 1) (xLV_len h.2)
  | [], _ :: _, _, h => by cases h
  | _ :: _, [], _, h => by cases h
theorem xRL_dead (ρ : List Int) (L : List (Option Value)) : xRL ρ (List.replicate L.length none) L := ⟨List.length_replicate, fun i u h => by
  refine ⟨none, ?_, fun q' hq => by cases hq⟩
  unfold zz_ld at h
  split at h
  · rename_i hq
    rw [List.getElem?_replicate, if_pos (List.getElem?_eq_some_iff.mp hq).1]
  · cases h⟩
/-- a method's runs, by its trees and what holds at the heads of its loops -/
theorem x_met {j : Nat} {hd : xHd} {T : xT} {Ts : List xT} {n : Nat} (hc : x_chk j hd T Ts n = true) {as : List Int} {h h' : fH} {z : Int} (hs : fS j as h z h') (I : Nat → List Int → fH → Prop) (Q : Int → fH → Prop) (h0 : xd I Q T 0 as h) (hI : ∀ i Ti, Ts[i]? = some Ti → ∀ vals h, I i vals h → xd I Q Ti 0 vals h) : Q z h' := by
  obtain ⟨mi, n0, us, cs, w, cs', hm, hok, hF, hev, hts, rfl, rfl, rfl, rfl⟩ := hs
  unfold x_chk at hc
  rw [t_nth_eq, hm] at hc
  dsimp only at hc
  rw [t_nth_eq] at hc
  split at hc
  · cases hc
  · rename_i ts hft
    rw [hft] at hts
    have hts : xTs ts us := hts
    simp only [t_and_iff, t_all_iff] at hc
    obtain ⟨⟨-, c1⟩, c2, c3⟩ := hc
    have c1 := Nat.eq_of_beq_eq_true c1
    rw [t_len_eq, t_len_eq] at c1
    have hom := f_okm hm hok
    have hKH : ∀ ρ : List Int, xKH I Q ρ cs' w x_K0 (Q (fvo w) (fh cs')) := by
      intro ρ a ρ2 T' k1 k2 k3 k4
      unfold x_K0 at k1
      split at k1
      · rename_i b z1 z2 T2
        have k4 : Q (xe (ρ ++ ρ2) b) (fh cs') := k4
        split at k1
        · rename_i τ o
          obtain ⟨u, rfl, hu⟩ := k2
          rw [← xob_ok k1, xe_of hu.1] at k4
          exact k4
        · have k2 : w = none := k2
          subst k2
          rw [← xob_ok k1] at k4
          exact k4
      · cases k1
    have hHH : ∀ m : Nat, xHH I hd mi m w cs' (Q (fvo w) (fh cs')) := by
      intro m
      induction m using Nat.strongRecOn with
      | _ m ihm =>
        intro i e m' L' cs1 cu' su' vals g1 g2 g3 g4 g5 g6 g7
        match m', g2, g3 with
        | 0, _, g3 => cases g3
        | m' + 1, g2, g3 =>
          have hi : i < Ts.length := by rw [← c1]; exact (List.getElem?_eq_some_iff.mp g1).1
          have hz : (hd.zip Ts)[i]? = some (e, Ts[i]) := by
            rw [List.getElem?_zip_eq_some]
            exact ⟨g1, List.getElem?_eq_getElem hi⟩
          have c4 := c3 _ (List.mem_of_getElem? hz)
          dsimp only at c4
          refine x_body_ok (xc_ok n) c4 hom (ρ := vals) ?_ ?_ (show xRS vals [] [] from trivial) g4 g3 (hI i _ (List.getElem?_eq_getElem hi) vals _ g7) (hKH vals) (ihm m' (by omega))
          · rw [t_len_eq, xLV_len g6]
          · unfold x_A0
            have := x_A0_ok (L := L') [] g6 (xRL_dead _ L')
            rw [g5] at this
            exact this
    refine xc_ok n hd mi 0 _ [] _ T x_K0 c2 hom (us.map fv) _ [] cs 0 0 n0 w cs' I Q _ ?_ ?_ trivial hF hev h0 (hKH _) (hHH n0)
    · rw [t_len_eq, xTs_len hts, List.length_map]
    · exact x_ent_ok _ (x_a0_ok [] hts)
end XS4
end
