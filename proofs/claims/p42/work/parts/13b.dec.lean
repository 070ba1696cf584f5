/-! a quick decoder over lists of bytes -/
noncomputable abbrev dF : Type := List UInt8 → Option (Instr × Nat)
noncomputable def dOK (n : Nat) (f : dF) : Prop := ∀ (c : ByteArray) (pc : Nat) (b : UInt8) (r : List UInt8) (x : Instr × Nat), c.data.toList.drop pc = b :: r → b.toNat = n → f r = some x → decode c pc = .ok x
noncomputable def dNo : dF := fun _ => none
theorem dNo_ok (n : Nat) : dOK n dNo := fun c pc b r x _ _ h => by cases h
theorem u1_run {c : ByteArray} {pc : Nat} {b : UInt8} {r : List UInt8} (h : c.data.toList.drop pc = b :: r) : ((Jvm.ClassFile.Reader.u1 : Jvm.ClassFile.Decoder Nat) c) pc = Except.ok (b.toNat, pc + 1) := by
  have hl : pc < c.data.toList.length := by
    rw [← Nat.not_le]
    intro q
    rw [List.drop_eq_nil_of_le q] at h
    cases h
  have hs : pc < c.size := by
    show pc < c.data.size
    rw [← Array.length_toList]
    exact hl
  have hb : c[pc]'hs = b := by
    have e := List.drop_eq_getElem_cons hl
    rw [h] at e
    have e := (List.cons.inj e).1
    rw [e]
    rfl
  show (dite (pc < c.size) _ _ : Jvm.ClassFile.Decoder Nat) c pc = _
  rw [dif_pos hs]
  show Except.ok ((c[pc]'hs).toNat, pc + 1) = _
  rw [hb]
section DD
variable {α β : Type} {c : ByteArray} {p q pc : Nat} {a : α} {i : Instr} {b b0 b1 : UInt8} {r : List UInt8}
theorem bind_ok (m : Jvm.ClassFile.Decoder α) (f : α → Jvm.ClassFile.Decoder β) (h : m c p = Except.ok (a, q)) : (m >>= f) c p = f a c q := by
  show Except.bind (m c p) (fun y => f y.1 c y.2) = _
  rw [h]
  rfl
theorem dec_of (h : Jvm.ClassFile.Decoder.instr pc c pc = Except.ok (i, q)) : decode c pc = .ok (i, q - pc) := by
  show Except.bind (Jvm.ClassFile.Decoder.instr pc c pc) (fun y => Except.ok (y.1, y.2 - pc)) = _
  rw [h]
  rfl
theorem drop_s (h : c.data.toList.drop pc = b :: r) : c.data.toList.drop (pc + 1) = r := by
  rw [← List.drop_drop, h]
  rfl
theorem s1_run (h : c.data.toList.drop pc = b :: r) : (Jvm.ClassFile.Reader.s1 : Jvm.ClassFile.Decoder Int) c pc = Except.ok (Jvm.ClassFile.Reader.signed 8 b.toNat, pc + 1) := by
  show Except.map (fun y => (Jvm.ClassFile.Reader.signed 8 y.1, y.2)) ((Jvm.ClassFile.Reader.u1 : Jvm.ClassFile.Decoder Nat) c pc) = _
  rw [u1_run h]
  rfl
theorem u2_run (h : c.data.toList.drop pc = b0 :: b1 :: r) : (Jvm.ClassFile.Reader.u2 : Jvm.ClassFile.Decoder Nat) c pc = Except.ok (b0.toNat * 256 + b1.toNat, pc + 1 + 1) := by
  unfold Jvm.ClassFile.Reader.u2
  refine (bind_ok _ _ (u1_run h)).trans ?_
  exact (bind_ok _ _ (u1_run (drop_s h))).trans rfl
theorem s2_run (h : c.data.toList.drop pc = b0 :: b1 :: r) : (Jvm.ClassFile.Reader.s2 : Jvm.ClassFile.Decoder Int) c pc = Except.ok (Jvm.ClassFile.Reader.signed 16 (b0.toNat * 256 + b1.toNat), pc + 1 + 1) := by
  show Except.map (fun y => (Jvm.ClassFile.Reader.signed 16 y.1, y.2)) ((Jvm.ClassFile.Reader.u2 : Jvm.ClassFile.Decoder Nat) c pc) = _
  rw [u2_run h]
  rfl
end DD
noncomputable def dd_1 : dF := fun _ => some (.aconst_null, 1)
noncomputable def dd_2 : dF := fun _ => some ((.iconst (-1)), 1)
noncomputable def dd_3 : dF := fun _ => some ((.iconst 0), 1)
noncomputable def dd_4 : dF := fun _ => some ((.iconst 1), 1)
noncomputable def dd_5 : dF := fun _ => some ((.iconst 2), 1)
noncomputable def dd_6 : dF := fun _ => some ((.iconst 3), 1)
noncomputable def dd_7 : dF := fun _ => some ((.iconst 4), 1)
noncomputable def dd_8 : dF := fun _ => some ((.iconst 5), 1)
noncomputable def dd_9 : dF := fun _ => some ((.lconst 0), 1)
noncomputable def dd_10 : dF := fun _ => some ((.lconst 1), 1)
noncomputable def dd_16 : dF := fun l => match l with
  | a0 :: _ => some ((.bipush (Jvm.ClassFile.Reader.signed 8 a0.toNat)), 2)
  | _ => none
noncomputable def dd_17 : dF := fun l => match l with
  | a0 :: a1 :: _ => some ((.sipush (Jvm.ClassFile.Reader.signed 16 (a0.toNat * 256 + a1.toNat))), 3)
  | _ => none
noncomputable def dd_20 : dF := fun l => match l with
  | a0 :: a1 :: _ => some ((.ldc2_w ((a0.toNat * 256 + a1.toNat))), 3)
  | _ => none
noncomputable def dd_21 : dF := fun l => match l with
  | a0 :: _ => some ((.iload (a0.toNat)), 2)
  | _ => none
noncomputable def dd_22 : dF := fun l => match l with
  | a0 :: _ => some ((.lload (a0.toNat)), 2)
  | _ => none
noncomputable def dd_25 : dF := fun l => match l with
  | a0 :: _ => some ((.aload (a0.toNat)), 2)
  | _ => none
noncomputable def dd_26 : dF := fun _ => some ((.iload_n 0), 1)
noncomputable def dd_27 : dF := fun _ => some ((.iload_n 1), 1)
noncomputable def dd_28 : dF := fun _ => some ((.iload_n 2), 1)
noncomputable def dd_29 : dF := fun _ => some ((.iload_n 3), 1)
noncomputable def dd_30 : dF := fun _ => some ((.lload_n 0), 1)
noncomputable def dd_31 : dF := fun _ => some ((.lload_n 1), 1)
noncomputable def dd_32 : dF := fun _ => some ((.lload_n 2), 1)
noncomputable def dd_33 : dF := fun _ => some ((.lload_n 3), 1)
noncomputable def dd_42 : dF := fun _ => some ((.aload_n 0), 1)
noncomputable def dd_43 : dF := fun _ => some ((.aload_n 1), 1)
noncomputable def dd_44 : dF := fun _ => some ((.aload_n 2), 1)
noncomputable def dd_45 : dF := fun _ => some ((.aload_n 3), 1)
noncomputable def dd_46 : dF := fun _ => some (.iaload, 1)
noncomputable def dd_47 : dF := fun _ => some (.laload, 1)
noncomputable def dd_50 : dF := fun _ => some (.aaload, 1)
noncomputable def dd_51 : dF := fun _ => some (.baload, 1)
noncomputable def dd_54 : dF := fun l => match l with
  | a0 :: _ => some ((.istore (a0.toNat)), 2)
  | _ => none
noncomputable def dd_55 : dF := fun l => match l with
  | a0 :: _ => some ((.lstore (a0.toNat)), 2)
  | _ => none
noncomputable def dd_58 : dF := fun l => match l with
  | a0 :: _ => some ((.astore (a0.toNat)), 2)
  | _ => none
noncomputable def dd_59 : dF := fun _ => some ((.istore_n 0), 1)
noncomputable def dd_60 : dF := fun _ => some ((.istore_n 1), 1)
noncomputable def dd_61 : dF := fun _ => some ((.istore_n 2), 1)
noncomputable def dd_62 : dF := fun _ => some ((.istore_n 3), 1)
noncomputable def dd_63 : dF := fun _ => some ((.lstore_n 0), 1)
noncomputable def dd_64 : dF := fun _ => some ((.lstore_n 1), 1)
noncomputable def dd_65 : dF := fun _ => some ((.lstore_n 2), 1)
noncomputable def dd_66 : dF := fun _ => some ((.lstore_n 3), 1)
noncomputable def dd_75 : dF := fun _ => some ((.astore_n 0), 1)
noncomputable def dd_76 : dF := fun _ => some ((.astore_n 1), 1)
noncomputable def dd_77 : dF := fun _ => some ((.astore_n 2), 1)
noncomputable def dd_78 : dF := fun _ => some ((.astore_n 3), 1)
noncomputable def dd_79 : dF := fun _ => some (.iastore, 1)
noncomputable def dd_83 : dF := fun _ => some (.aastore, 1)
noncomputable def dd_84 : dF := fun _ => some (.bastore, 1)
noncomputable def dd_87 : dF := fun _ => some (.pop, 1)
noncomputable def dd_88 : dF := fun _ => some (.pop2, 1)
noncomputable def dd_89 : dF := fun _ => some (.dup, 1)
noncomputable def dd_92 : dF := fun _ => some (.dup2, 1)
noncomputable def dd_96 : dF := fun _ => some (.iadd, 1)
noncomputable def dd_97 : dF := fun _ => some (.ladd, 1)
noncomputable def dd_100 : dF := fun _ => some (.isub, 1)
noncomputable def dd_101 : dF := fun _ => some (.lsub, 1)
noncomputable def dd_104 : dF := fun _ => some (.imul, 1)
noncomputable def dd_105 : dF := fun _ => some (.lmul, 1)
noncomputable def dd_108 : dF := fun _ => some (.idiv, 1)
noncomputable def dd_109 : dF := fun _ => some (.ldiv, 1)
noncomputable def dd_112 : dF := fun _ => some (.irem, 1)
noncomputable def dd_113 : dF := fun _ => some (.lrem, 1)
noncomputable def dd_116 : dF := fun _ => some (.ineg, 1)
noncomputable def dd_120 : dF := fun _ => some (.ishl, 1)
noncomputable def dd_122 : dF := fun _ => some (.ishr, 1)
noncomputable def dd_124 : dF := fun _ => some (.iushr, 1)
noncomputable def dd_126 : dF := fun _ => some (.iand, 1)
noncomputable def dd_127 : dF := fun _ => some (.land, 1)
noncomputable def dd_128 : dF := fun _ => some (.ior, 1)
noncomputable def dd_130 : dF := fun _ => some (.ixor, 1)
noncomputable def dd_132 : dF := fun l => match l with
  | a0 :: a1 :: _ => some ((.iinc (a0.toNat) (Jvm.ClassFile.Reader.signed 8 a1.toNat)), 3)
  | _ => none
noncomputable def dd_133 : dF := fun _ => some (.i2l, 1)
noncomputable def dd_136 : dF := fun _ => some (.l2i, 1)
noncomputable def dd_148 : dF := fun _ => some (.lcmp, 1)
noncomputable def dd_153 : dF := fun l => match l with
  | a0 :: a1 :: _ => some ((.ifCond .eq (Jvm.ClassFile.Reader.signed 16 (a0.toNat * 256 + a1.toNat))), 3)
  | _ => none
noncomputable def dd_154 : dF := fun l => match l with
  | a0 :: a1 :: _ => some ((.ifCond .ne (Jvm.ClassFile.Reader.signed 16 (a0.toNat * 256 + a1.toNat))), 3)
  | _ => none
noncomputable def dd_155 : dF := fun l => match l with
  | a0 :: a1 :: _ => some ((.ifCond .lt (Jvm.ClassFile.Reader.signed 16 (a0.toNat * 256 + a1.toNat))), 3)
  | _ => none
noncomputable def dd_156 : dF := fun l => match l with
  | a0 :: a1 :: _ => some ((.ifCond .ge (Jvm.ClassFile.Reader.signed 16 (a0.toNat * 256 + a1.toNat))), 3)
  | _ => none
noncomputable def dd_157 : dF := fun l => match l with
  | a0 :: a1 :: _ => some ((.ifCond .gt (Jvm.ClassFile.Reader.signed 16 (a0.toNat * 256 + a1.toNat))), 3)
  | _ => none
noncomputable def dd_158 : dF := fun l => match l with
  | a0 :: a1 :: _ => some ((.ifCond .le (Jvm.ClassFile.Reader.signed 16 (a0.toNat * 256 + a1.toNat))), 3)
  | _ => none
noncomputable def dd_159 : dF := fun l => match l with
  | a0 :: a1 :: _ => some ((.if_icmp .eq (Jvm.ClassFile.Reader.signed 16 (a0.toNat * 256 + a1.toNat))), 3)
  | _ => none
noncomputable def dd_160 : dF := fun l => match l with
  | a0 :: a1 :: _ => some ((.if_icmp .ne (Jvm.ClassFile.Reader.signed 16 (a0.toNat * 256 + a1.toNat))), 3)
  | _ => none
noncomputable def dd_161 : dF := fun l => match l with
  | a0 :: a1 :: _ => some ((.if_icmp .lt (Jvm.ClassFile.Reader.signed 16 (a0.toNat * 256 + a1.toNat))), 3)
  | _ => none
noncomputable def dd_162 : dF := fun l => match l with
  | a0 :: a1 :: _ => some ((.if_icmp .ge (Jvm.ClassFile.Reader.signed 16 (a0.toNat * 256 + a1.toNat))), 3)
  | _ => none
noncomputable def dd_163 : dF := fun l => match l with
  | a0 :: a1 :: _ => some ((.if_icmp .gt (Jvm.ClassFile.Reader.signed 16 (a0.toNat * 256 + a1.toNat))), 3)
  | _ => none
noncomputable def dd_164 : dF := fun l => match l with
  | a0 :: a1 :: _ => some ((.if_icmp .le (Jvm.ClassFile.Reader.signed 16 (a0.toNat * 256 + a1.toNat))), 3)
  | _ => none
noncomputable def dd_165 : dF := fun l => match l with
  | a0 :: a1 :: _ => some ((.if_acmp .eq (Jvm.ClassFile.Reader.signed 16 (a0.toNat * 256 + a1.toNat))), 3)
  | _ => none
noncomputable def dd_166 : dF := fun l => match l with
  | a0 :: a1 :: _ => some ((.if_acmp .ne (Jvm.ClassFile.Reader.signed 16 (a0.toNat * 256 + a1.toNat))), 3)
  | _ => none
noncomputable def dd_167 : dF := fun l => match l with
  | a0 :: a1 :: _ => some ((.goto (Jvm.ClassFile.Reader.signed 16 (a0.toNat * 256 + a1.toNat))), 3)
  | _ => none
noncomputable def dd_172 : dF := fun _ => some (.ireturn, 1)
noncomputable def dd_173 : dF := fun _ => some (.lreturn, 1)
noncomputable def dd_176 : dF := fun _ => some (.areturn, 1)
noncomputable def dd_177 : dF := fun _ => some (.return_, 1)
noncomputable def dd_178 : dF := fun l => match l with
  | a0 :: a1 :: _ => some ((.getstatic ((a0.toNat * 256 + a1.toNat))), 3)
  | _ => none
noncomputable def dd_179 : dF := fun l => match l with
  | a0 :: a1 :: _ => some ((.putstatic ((a0.toNat * 256 + a1.toNat))), 3)
  | _ => none
noncomputable def dd_180 : dF := fun l => match l with
  | a0 :: a1 :: _ => some ((.getfield ((a0.toNat * 256 + a1.toNat))), 3)
  | _ => none
noncomputable def dd_181 : dF := fun l => match l with
  | a0 :: a1 :: _ => some ((.putfield ((a0.toNat * 256 + a1.toNat))), 3)
  | _ => none
noncomputable def dd_182 : dF := fun l => match l with
  | a0 :: a1 :: _ => some ((.invokevirtual ((a0.toNat * 256 + a1.toNat))), 3)
  | _ => none
noncomputable def dd_183 : dF := fun l => match l with
  | a0 :: a1 :: _ => some ((.invokespecial ((a0.toNat * 256 + a1.toNat))), 3)
  | _ => none
noncomputable def dd_184 : dF := fun l => match l with
  | a0 :: a1 :: _ => some ((.invokestatic ((a0.toNat * 256 + a1.toNat))), 3)
  | _ => none
noncomputable def dd_187 : dF := fun l => match l with
  | a0 :: a1 :: _ => some ((.new ((a0.toNat * 256 + a1.toNat))), 3)
  | _ => none
noncomputable def dd_189 : dF := fun l => match l with
  | a0 :: a1 :: _ => some ((.anewarray ((a0.toNat * 256 + a1.toNat))), 3)
  | _ => none
noncomputable def dd_190 : dF := fun _ => some (.arraylength, 1)
noncomputable def dd_192 : dF := fun l => match l with
  | a0 :: a1 :: _ => some ((.checkcast ((a0.toNat * 256 + a1.toNat))), 3)
  | _ => none
noncomputable def dd_198 : dF := fun l => match l with
  | a0 :: a1 :: _ => some ((.ifnull (Jvm.ClassFile.Reader.signed 16 (a0.toNat * 256 + a1.toNat))), 3)
  | _ => none
noncomputable def dd_199 : dF := fun l => match l with
  | a0 :: a1 :: _ => some ((.ifnonnull (Jvm.ClassFile.Reader.signed 16 (a0.toNat * 256 + a1.toNat))), 3)
  | _ => none
set_option maxRecDepth 100000 in
theorem do_1 : dOK 1 dd_1 := fun c pc b r x hl hb hx => by
  cases hx
  have hu := u1_run hl
  rw [hb] at hu
  have h := dec_of (q := pc + 1) ((bind_ok _ _ hu).trans rfl)
  refine h.trans ?_
  rw [show pc + 1 - pc = 1 by omega]
set_option maxRecDepth 100000 in
theorem do_2 : dOK 2 dd_2 := fun c pc b r x hl hb hx => by
  cases hx
  have hu := u1_run hl
  rw [hb] at hu
  have h := dec_of (q := pc + 1) ((bind_ok _ _ hu).trans rfl)
  refine h.trans ?_
  rw [show pc + 1 - pc = 1 by omega]
set_option maxRecDepth 100000 in
theorem do_3 : dOK 3 dd_3 := fun c pc b r x hl hb hx => by
  cases hx
  have hu := u1_run hl
  rw [hb] at hu
  have h := dec_of (q := pc + 1) ((bind_ok _ _ hu).trans rfl)
  refine h.trans ?_
  rw [show pc + 1 - pc = 1 by omega]
set_option maxRecDepth 100000 in
theorem do_4 : dOK 4 dd_4 := fun c pc b r x hl hb hx => by
  cases hx
  have hu := u1_run hl
  rw [hb] at hu
  have h := dec_of (q := pc + 1) ((bind_ok _ _ hu).trans rfl)
  refine h.trans ?_
  rw [show pc + 1 - pc = 1 by omega]
set_option maxRecDepth 100000 in
theorem do_5 : dOK 5 dd_5 := fun c pc b r x hl hb hx => by
  cases hx
  have hu := u1_run hl
  rw [hb] at hu
  have h := dec_of (q := pc + 1) ((bind_ok _ _ hu).trans rfl)
  refine h.trans ?_
  rw [show pc + 1 - pc = 1 by omega]
set_option maxRecDepth 100000 in
theorem do_6 : dOK 6 dd_6 := fun c pc b r x hl hb hx => by
  cases hx
  have hu := u1_run hl
  rw [hb] at hu
  have h := dec_of (q := pc + 1) ((bind_ok _ _ hu).trans rfl)
  refine h.trans ?_
  rw [show pc + 1 - pc = 1 by omega]
set_option maxRecDepth 100000 in
theorem do_7 : dOK 7 dd_7 := fun c pc b r x hl hb hx => by
  cases hx
  have hu := u1_run hl
  rw [hb] at hu
  have h := dec_of (q := pc + 1) ((bind_ok _ _ hu).trans rfl)
  refine h.trans ?_
  rw [show pc + 1 - pc = 1 by omega]
set_option maxRecDepth 100000 in
theorem do_8 : dOK 8 dd_8 := fun c pc b r x hl hb hx => by
  cases hx
  have hu := u1_run hl
  rw [hb] at hu
  have h := dec_of (q := pc + 1) ((bind_ok _ _ hu).trans rfl)
  refine h.trans ?_
  rw [show pc + 1 - pc = 1 by omega]
set_option maxRecDepth 100000 in
theorem do_9 : dOK 9 dd_9 := fun c pc b r x hl hb hx => by
  cases hx
  have hu := u1_run hl
  rw [hb] at hu
  have h := dec_of (q := pc + 1) ((bind_ok _ _ hu).trans rfl)
  refine h.trans ?_
  rw [show pc + 1 - pc = 1 by omega]
set_option maxRecDepth 100000 in
theorem do_10 : dOK 10 dd_10 := fun c pc b r x hl hb hx => by
  cases hx
  have hu := u1_run hl
  rw [hb] at hu
  have h := dec_of (q := pc + 1) ((bind_ok _ _ hu).trans rfl)
  refine h.trans ?_
  rw [show pc + 1 - pc = 1 by omega]
set_option maxRecDepth 100000 in
theorem do_16 : dOK 16 dd_16 := fun c pc b r x hl hb hx => by
  match r, hl, hx with
  | a0 :: t, hl, hx =>
    cases hx
    have hu := u1_run hl
    rw [hb] at hu
    have h := dec_of (q := pc + 1 + 1) ((bind_ok _ _ hu).trans ((bind_ok _ _ (s1_run (drop_s hl))).trans rfl))
    refine h.trans ?_
    rw [show pc + 1 + 1 - pc = 2 by omega]
  | [], hl, hx => cases hx
set_option maxRecDepth 100000 in
theorem do_17 : dOK 17 dd_17 := fun c pc b r x hl hb hx => by
  match r, hl, hx with
  | a0 :: a1 :: t, hl, hx =>
    cases hx
    have hu := u1_run hl
    rw [hb] at hu
    have h := dec_of (q := pc + 1 + 1 + 1) ((bind_ok _ _ hu).trans ((bind_ok _ _ (s2_run (drop_s hl))).trans rfl))
    refine h.trans ?_
    rw [show pc + 1 + 1 + 1 - pc = 3 by omega]
  | [], hl, hx => cases hx
  | [_], hl, hx => cases hx
set_option maxRecDepth 100000 in
theorem do_20 : dOK 20 dd_20 := fun c pc b r x hl hb hx => by
  match r, hl, hx with
  | a0 :: a1 :: t, hl, hx =>
    cases hx
    have hu := u1_run hl
    rw [hb] at hu
    have h := dec_of (q := pc + 1 + 1 + 1) ((bind_ok _ _ hu).trans ((bind_ok _ _ (u2_run (drop_s hl))).trans rfl))
    refine h.trans ?_
    rw [show pc + 1 + 1 + 1 - pc = 3 by omega]
  | [], hl, hx => cases hx
  | [_], hl, hx => cases hx
set_option maxRecDepth 100000 in
theorem do_21 : dOK 21 dd_21 := fun c pc b r x hl hb hx => by
  match r, hl, hx with
  | a0 :: t, hl, hx =>
    cases hx
    have hu := u1_run hl
    rw [hb] at hu
    have h := dec_of (q := pc + 1 + 1) ((bind_ok _ _ hu).trans ((bind_ok _ _ (u1_run (drop_s hl))).trans rfl))
    refine h.trans ?_
    rw [show pc + 1 + 1 - pc = 2 by omega]
  | [], hl, hx => cases hx
set_option maxRecDepth 100000 in
theorem do_22 : dOK 22 dd_22 := fun c pc b r x hl hb hx => by
  match r, hl, hx with
  | a0 :: t, hl, hx =>
    cases hx
    have hu := u1_run hl
    rw [hb] at hu
    have h := dec_of (q := pc + 1 + 1) ((bind_ok _ _ hu).trans ((bind_ok _ _ (u1_run (drop_s hl))).trans rfl))
    refine h.trans ?_
    rw [show pc + 1 + 1 - pc = 2 by omega]
  | [], hl, hx => cases hx
set_option maxRecDepth 100000 in
theorem do_25 : dOK 25 dd_25 := fun c pc b r x hl hb hx => by
  match r, hl, hx with
  | a0 :: t, hl, hx =>
    cases hx
    have hu := u1_run hl
    rw [hb] at hu
    have h := dec_of (q := pc + 1 + 1) ((bind_ok _ _ hu).trans ((bind_ok _ _ (u1_run (drop_s hl))).trans rfl))
    refine h.trans ?_
    rw [show pc + 1 + 1 - pc = 2 by omega]
  | [], hl, hx => cases hx
set_option maxRecDepth 100000 in
theorem do_26 : dOK 26 dd_26 := fun c pc b r x hl hb hx => by
  cases hx
  have hu := u1_run hl
  rw [hb] at hu
  have h := dec_of (q := pc + 1) ((bind_ok _ _ hu).trans rfl)
  refine h.trans ?_
  rw [show pc + 1 - pc = 1 by omega]
set_option maxRecDepth 100000 in
theorem do_27 : dOK 27 dd_27 := fun c pc b r x hl hb hx => by
  cases hx
  have hu := u1_run hl
  rw [hb] at hu
  have h := dec_of (q := pc + 1) ((bind_ok _ _ hu).trans rfl)
  refine h.trans ?_
  rw [show pc + 1 - pc = 1 by omega]
set_option maxRecDepth 100000 in
theorem do_28 : dOK 28 dd_28 := fun c pc b r x hl hb hx => by
  cases hx
  have hu := u1_run hl
  rw [hb] at hu
  have h := dec_of (q := pc + 1) ((bind_ok _ _ hu).trans rfl)
  refine h.trans ?_
  rw [show pc + 1 - pc = 1 by omega]
set_option maxRecDepth 100000 in
theorem do_29 : dOK 29 dd_29 := fun c pc b r x hl hb hx => by
  cases hx
  have hu := u1_run hl
  rw [hb] at hu
  have h := dec_of (q := pc + 1) ((bind_ok _ _ hu).trans rfl)
  refine h.trans ?_
  rw [show pc + 1 - pc = 1 by omega]
set_option maxRecDepth 100000 in
theorem do_30 : dOK 30 dd_30 := fun c pc b r x hl hb hx => by
  cases hx
  have hu := u1_run hl
  rw [hb] at hu
  have h := dec_of (q := pc + 1) ((bind_ok _ _ hu).trans rfl)
  refine h.trans ?_
  rw [show pc + 1 - pc = 1 by omega]
set_option maxRecDepth 100000 in
theorem do_31 : dOK 31 dd_31 := fun c pc b r x hl hb hx => by
  cases hx
  have hu := u1_run hl
  rw [hb] at hu
  have h := dec_of (q := pc + 1) ((bind_ok _ _ hu).trans rfl)
  refine h.trans ?_
  rw [show pc + 1 - pc = 1 by omega]
set_option maxRecDepth 100000 in
theorem do_32 : dOK 32 dd_32 := fun c pc b r x hl hb hx => by
  cases hx
  have hu := u1_run hl
  rw [hb] at hu
  have h := dec_of (q := pc + 1) ((bind_ok _ _ hu).trans rfl)
  refine h.trans ?_
  rw [show pc + 1 - pc = 1 by omega]
set_option maxRecDepth 100000 in
theorem do_33 : dOK 33 dd_33 := fun c pc b r x hl hb hx => by
  cases hx
  have hu := u1_run hl
  rw [hb] at hu
  have h := dec_of (q := pc + 1) ((bind_ok _ _ hu).trans rfl)
  refine h.trans ?_
  rw [show pc + 1 - pc = 1 by omega]
set_option maxRecDepth 100000 in
theorem do_42 : dOK 42 dd_42 := fun c pc b r x hl hb hx => by
  cases hx
  have hu := u1_run hl
  rw [hb] at hu
  have h := dec_of (q := pc + 1) ((bind_ok _ _ hu).trans rfl)
  refine h.trans ?_
  rw [show pc + 1 - pc = 1 by omega]
set_option maxRecDepth 100000 in
theorem do_43 : dOK 43 dd_43 := fun c pc b r x hl hb hx => by
  cases hx
  have hu := u1_run hl
  rw [hb] at hu
  have h := dec_of (q := pc + 1) ((bind_ok _ _ hu).trans rfl)
  refine h.trans ?_
  rw [show pc + 1 - pc = 1 by omega]
set_option maxRecDepth 100000 in
theorem do_44 : dOK 44 dd_44 := fun c pc b r x hl hb hx => by
  cases hx
  have hu := u1_run hl
  rw [hb] at hu
  have h := dec_of (q := pc + 1) ((bind_ok _ _ hu).trans rfl)
  refine h.trans ?_
  rw [show pc + 1 - pc = 1 by omega]
set_option maxRecDepth 100000 in
theorem do_45 : dOK 45 dd_45 := fun c pc b r x hl hb hx => by
  cases hx
  have hu := u1_run hl
  rw [hb] at hu
  have h := dec_of (q := pc + 1) ((bind_ok _ _ hu).trans rfl)
  refine h.trans ?_
  rw [show pc + 1 - pc = 1 by omega]
set_option maxRecDepth 100000 in
theorem do_46 : dOK 46 dd_46 := fun c pc b r x hl hb hx => by
  cases hx
  have hu := u1_run hl
  rw [hb] at hu
  have h := dec_of (q := pc + 1) ((bind_ok _ _ hu).trans rfl)
  refine h.trans ?_
  rw [show pc + 1 - pc = 1 by omega]
set_option maxRecDepth 100000 in
theorem do_47 : dOK 47 dd_47 := fun c pc b r x hl hb hx => by
  cases hx
  have hu := u1_run hl
  rw [hb] at hu
  have h := dec_of (q := pc + 1) ((bind_ok _ _ hu).trans rfl)
  refine h.trans ?_
  rw [show pc + 1 - pc = 1 by omega]
set_option maxRecDepth 100000 in
theorem do_50 : dOK 50 dd_50 := fun c pc b r x hl hb hx => by
  cases hx
  have hu := u1_run hl
  rw [hb] at hu
  have h := dec_of (q := pc + 1) ((bind_ok _ _ hu).trans rfl)
  refine h.trans ?_
  rw [show pc + 1 - pc = 1 by omega]
set_option maxRecDepth 100000 in
theorem do_51 : dOK 51 dd_51 := fun c pc b r x hl hb hx => by
  cases hx
  have hu := u1_run hl
  rw [hb] at hu
  have h := dec_of (q := pc + 1) ((bind_ok _ _ hu).trans rfl)
  refine h.trans ?_
  rw [show pc + 1 - pc = 1 by omega]
set_option maxRecDepth 100000 in
theorem do_54 : dOK 54 dd_54 := fun c pc b r x hl hb hx => by
  match r, hl, hx with
  | a0 :: t, hl, hx =>
    cases hx
    have hu := u1_run hl
    rw [hb] at hu
    have h := dec_of (q := pc + 1 + 1) ((bind_ok _ _ hu).trans ((bind_ok _ _ (u1_run (drop_s hl))).trans rfl))
    refine h.trans ?_
    rw [show pc + 1 + 1 - pc = 2 by omega]
  | [], hl, hx => cases hx
set_option maxRecDepth 100000 in
theorem do_55 : dOK 55 dd_55 := fun c pc b r x hl hb hx => by
  match r, hl, hx with
  | a0 :: t, hl, hx =>
    cases hx
    have hu := u1_run hl
    rw [hb] at hu
    have h := dec_of (q := pc + 1 + 1) ((bind_ok _ _ hu).trans ((bind_ok _ _ (u1_run (drop_s hl))).trans rfl))
    refine h.trans ?_
    rw [show pc + 1 + 1 - pc = 2 by omega]
  | [], hl, hx => cases hx
set_option maxRecDepth 100000 in
theorem do_58 : dOK 58 dd_58 := fun c pc b r x hl hb hx => by
  match r, hl, hx with
  | a0 :: t, hl, hx =>
    cases hx
    have hu := u1_run hl
    rw [hb] at hu
    have h := dec_of (q := pc + 1 + 1) ((bind_ok _ _ hu).trans ((bind_ok _ _ (u1_run (drop_s hl))).trans rfl))
    refine h.trans ?_
    rw [show pc + 1 + 1 - pc = 2 by omega]
  | [], hl, hx => cases hx
set_option maxRecDepth 100000 in
theorem do_59 : dOK 59 dd_59 := fun c pc b r x hl hb hx => by
  cases hx
  have hu := u1_run hl
  rw [hb] at hu
  have h := dec_of (q := pc + 1) ((bind_ok _ _ hu).trans rfl)
  refine h.trans ?_
  rw [show pc + 1 - pc = 1 by omega]
set_option maxRecDepth 100000 in
theorem do_60 : dOK 60 dd_60 := fun c pc b r x hl hb hx => by
  cases hx
  have hu := u1_run hl
  rw [hb] at hu
  have h := dec_of (q := pc + 1) ((bind_ok _ _ hu).trans rfl)
  refine h.trans ?_
  rw [show pc + 1 - pc = 1 by omega]
set_option maxRecDepth 100000 in
theorem do_61 : dOK 61 dd_61 := fun c pc b r x hl hb hx => by
  cases hx
  have hu := u1_run hl
  rw [hb] at hu
  have h := dec_of (q := pc + 1) ((bind_ok _ _ hu).trans rfl)
  refine h.trans ?_
  rw [show pc + 1 - pc = 1 by omega]
set_option maxRecDepth 100000 in
theorem do_62 : dOK 62 dd_62 := fun c pc b r x hl hb hx => by
  cases hx
  have hu := u1_run hl
  rw [hb] at hu
  have h := dec_of (q := pc + 1) ((bind_ok _ _ hu).trans rfl)
  refine h.trans ?_
  rw [show pc + 1 - pc = 1 by omega]
set_option maxRecDepth 100000 in
theorem do_63 : dOK 63 dd_63 := fun c pc b r x hl hb hx => by
  cases hx
  have hu := u1_run hl
  rw [hb] at hu
  have h := dec_of (q := pc + 1) ((bind_ok _ _ hu).trans rfl)
  refine h.trans ?_
  rw [show pc + 1 - pc = 1 by omega]
set_option maxRecDepth 100000 in
theorem do_64 : dOK 64 dd_64 := fun c pc b r x hl hb hx => by
  cases hx
  have hu := u1_run hl
  rw [hb] at hu
  have h := dec_of (q := pc + 1) ((bind_ok _ _ hu).trans rfl)
  refine h.trans ?_
  rw [show pc + 1 - pc = 1 by omega]
set_option maxRecDepth 100000 in
theorem do_65 : dOK 65 dd_65 := fun c pc b r x hl hb hx => by
  cases hx
  have hu := u1_run hl
  rw [hb] at hu
  have h := dec_of (q := pc + 1) ((bind_ok _ _ hu).trans rfl)
  refine h.trans ?_
  rw [show pc + 1 - pc = 1 by omega]
set_option maxRecDepth 100000 in
theorem do_66 : dOK 66 dd_66 := fun c pc b r x hl hb hx => by
  cases hx
  have hu := u1_run hl
  rw [hb] at hu
  have h := dec_of (q := pc + 1) ((bind_ok _ _ hu).trans rfl)
  refine h.trans ?_
  rw [show pc + 1 - pc = 1 by omega]
set_option maxRecDepth 100000 in
theorem do_75 : dOK 75 dd_75 := fun c pc b r x hl hb hx => by
  cases hx
  have hu := u1_run hl
  rw [hb] at hu
  have h := dec_of (q := pc + 1) ((bind_ok _ _ hu).trans rfl)
  refine h.trans ?_
  rw [show pc + 1 - pc = 1 by omega]
set_option maxRecDepth 100000 in
theorem do_76 : dOK 76 dd_76 := fun c pc b r x hl hb hx => by
  cases hx
  have hu := u1_run hl
  rw [hb] at hu
  have h := dec_of (q := pc + 1) ((bind_ok _ _ hu).trans rfl)
  refine h.trans ?_
  rw [show pc + 1 - pc = 1 by omega]
set_option maxRecDepth 100000 in
theorem do_77 : dOK 77 dd_77 := fun c pc b r x hl hb hx => by
  cases hx
  have hu := u1_run hl
  rw [hb] at hu
  have h := dec_of (q := pc + 1) ((bind_ok _ _ hu).trans rfl)
  refine h.trans ?_
  rw [show pc + 1 - pc = 1 by omega]
set_option maxRecDepth 100000 in
theorem do_78 : dOK 78 dd_78 := fun c pc b r x hl hb hx => by
  cases hx
  have hu := u1_run hl
  rw [hb] at hu
  have h := dec_of (q := pc + 1) ((bind_ok _ _ hu).trans rfl)
  refine h.trans ?_
  rw [show pc + 1 - pc = 1 by omega]
set_option maxRecDepth 100000 in
theorem do_79 : dOK 79 dd_79 := fun c pc b r x hl hb hx => by
  cases hx
  have hu := u1_run hl
  rw [hb] at hu
  have h := dec_of (q := pc + 1) ((bind_ok _ _ hu).trans rfl)
  refine h.trans ?_
  rw [show pc + 1 - pc = 1 by omega]
set_option maxRecDepth 100000 in
theorem do_83 : dOK 83 dd_83 := fun c pc b r x hl hb hx => by
  cases hx
  have hu := u1_run hl
  rw [hb] at hu
  have h := dec_of (q := pc + 1) ((bind_ok _ _ hu).trans rfl)
  refine h.trans ?_
  rw [show pc + 1 - pc = 1 by omega]
set_option maxRecDepth 100000 in
theorem do_84 : dOK 84 dd_84 := fun c pc b r x hl hb hx => by
  cases hx
  have hu := u1_run hl
  rw [hb] at hu
  have h := dec_of (q := pc + 1) ((bind_ok _ _ hu).trans rfl)
  refine h.trans ?_
  rw [show pc + 1 - pc = 1 by omega]
set_option maxRecDepth 100000 in
theorem do_87 : dOK 87 dd_87 := fun c pc b r x hl hb hx => by
  cases hx
  have hu := u1_run hl
  rw [hb] at hu
  have h := dec_of (q := pc + 1) ((bind_ok _ _ hu).trans rfl)
  refine h.trans ?_
  rw [show pc + 1 - pc = 1 by omega]
set_option maxRecDepth 100000 in
theorem do_88 : dOK 88 dd_88 := fun c pc b r x hl hb hx => by
  cases hx
  have hu := u1_run hl
  rw [hb] at hu
  have h := dec_of (q := pc + 1) ((bind_ok _ _ hu).trans rfl)
  refine h.trans ?_
  rw [show pc + 1 - pc = 1 by omega]
set_option maxRecDepth 100000 in
theorem do_89 : dOK 89 dd_89 := fun c pc b r x hl hb hx => by
  cases hx
  have hu := u1_run hl
  rw [hb] at hu
  have h := dec_of (q := pc + 1) ((bind_ok _ _ hu).trans rfl)
  refine h.trans ?_
  rw [show pc + 1 - pc = 1 by omega]
set_option maxRecDepth 100000 in
theorem do_92 : dOK 92 dd_92 := fun c pc b r x hl hb hx => by
  cases hx
  have hu := u1_run hl
  rw [hb] at hu
  have h := dec_of (q := pc + 1) ((bind_ok _ _ hu).trans rfl)
  refine h.trans ?_
  rw [show pc + 1 - pc = 1 by omega]
set_option maxRecDepth 100000 in
theorem do_96 : dOK 96 dd_96 := fun c pc b r x hl hb hx => by
  cases hx
  have hu := u1_run hl
  rw [hb] at hu
  have h := dec_of (q := pc + 1) ((bind_ok _ _ hu).trans rfl)
  refine h.trans ?_
  rw [show pc + 1 - pc = 1 by omega]
set_option maxRecDepth 100000 in
theorem do_97 : dOK 97 dd_97 := fun c pc b r x hl hb hx => by
  cases hx
  have hu := u1_run hl
  rw [hb] at hu
  have h := dec_of (q := pc + 1) ((bind_ok _ _ hu).trans rfl)
  refine h.trans ?_
  rw [show pc + 1 - pc = 1 by omega]
set_option maxRecDepth 100000 in
theorem do_100 : dOK 100 dd_100 := fun c pc b r x hl hb hx => by
  cases hx
  have hu := u1_run hl
  rw [hb] at hu
  have h := dec_of (q := pc + 1) ((bind_ok _ _ hu).trans rfl)
  refine h.trans ?_
  rw [show pc + 1 - pc = 1 by omega]
set_option maxRecDepth 100000 in
theorem do_101 : dOK 101 dd_101 := fun c pc b r x hl hb hx => by
  cases hx
  have hu := u1_run hl
  rw [hb] at hu
  have h := dec_of (q := pc + 1) ((bind_ok _ _ hu).trans rfl)
  refine h.trans ?_
  rw [show pc + 1 - pc = 1 by omega]
set_option maxRecDepth 100000 in
theorem do_104 : dOK 104 dd_104 := fun c pc b r x hl hb hx => by
  cases hx
  have hu := u1_run hl
  rw [hb] at hu
  have h := dec_of (q := pc + 1) ((bind_ok _ _ hu).trans rfl)
  refine h.trans ?_
  rw [show pc + 1 - pc = 1 by omega]
set_option maxRecDepth 100000 in
theorem do_105 : dOK 105 dd_105 := fun c pc b r x hl hb hx => by
  cases hx
  have hu := u1_run hl
  rw [hb] at hu
  have h := dec_of (q := pc + 1) ((bind_ok _ _ hu).trans rfl)
  refine h.trans ?_
  rw [show pc + 1 - pc = 1 by omega]
set_option maxRecDepth 100000 in
theorem do_108 : dOK 108 dd_108 := fun c pc b r x hl hb hx => by
  cases hx
  have hu := u1_run hl
  rw [hb] at hu
  have h := dec_of (q := pc + 1) ((bind_ok _ _ hu).trans rfl)
  refine h.trans ?_
  rw [show pc + 1 - pc = 1 by omega]
set_option maxRecDepth 100000 in
theorem do_109 : dOK 109 dd_109 := fun c pc b r x hl hb hx => by
  cases hx
  have hu := u1_run hl
  rw [hb] at hu
  have h := dec_of (q := pc + 1) ((bind_ok _ _ hu).trans rfl)
  refine h.trans ?_
  rw [show pc + 1 - pc = 1 by omega]
set_option maxRecDepth 100000 in
theorem do_112 : dOK 112 dd_112 := fun c pc b r x hl hb hx => by
  cases hx
  have hu := u1_run hl
  rw [hb] at hu
  have h := dec_of (q := pc + 1) ((bind_ok _ _ hu).trans rfl)
  refine h.trans ?_
  rw [show pc + 1 - pc = 1 by omega]
set_option maxRecDepth 100000 in
theorem do_113 : dOK 113 dd_113 := fun c pc b r x hl hb hx => by
  cases hx
  have hu := u1_run hl
  rw [hb] at hu
  have h := dec_of (q := pc + 1) ((bind_ok _ _ hu).trans rfl)
  refine h.trans ?_
  rw [show pc + 1 - pc = 1 by omega]
set_option maxRecDepth 100000 in
theorem do_116 : dOK 116 dd_116 := fun c pc b r x hl hb hx => by
  cases hx
  have hu := u1_run hl
  rw [hb] at hu
  have h := dec_of (q := pc + 1) ((bind_ok _ _ hu).trans rfl)
  refine h.trans ?_
  rw [show pc + 1 - pc = 1 by omega]
set_option maxRecDepth 100000 in
theorem do_120 : dOK 120 dd_120 := fun c pc b r x hl hb hx => by
  cases hx
  have hu := u1_run hl
  rw [hb] at hu
  have h := dec_of (q := pc + 1) ((bind_ok _ _ hu).trans rfl)
  refine h.trans ?_
  rw [show pc + 1 - pc = 1 by omega]
set_option maxRecDepth 100000 in
theorem do_122 : dOK 122 dd_122 := fun c pc b r x hl hb hx => by
  cases hx
  have hu := u1_run hl
  rw [hb] at hu
  have h := dec_of (q := pc + 1) ((bind_ok _ _ hu).trans rfl)
  refine h.trans ?_
  rw [show pc + 1 - pc = 1 by omega]
set_option maxRecDepth 100000 in
theorem do_124 : dOK 124 dd_124 := fun c pc b r x hl hb hx => by
  cases hx
  have hu := u1_run hl
  rw [hb] at hu
  have h := dec_of (q := pc + 1) ((bind_ok _ _ hu).trans rfl)
  refine h.trans ?_
  rw [show pc + 1 - pc = 1 by omega]
set_option maxRecDepth 100000 in
theorem do_126 : dOK 126 dd_126 := fun c pc b r x hl hb hx => by
  cases hx
  have hu := u1_run hl
  rw [hb] at hu
  have h := dec_of (q := pc + 1) ((bind_ok _ _ hu).trans rfl)
  refine h.trans ?_
  rw [show pc + 1 - pc = 1 by omega]
set_option maxRecDepth 100000 in
theorem do_127 : dOK 127 dd_127 := fun c pc b r x hl hb hx => by
  cases hx
  have hu := u1_run hl
  rw [hb] at hu
  have h := dec_of (q := pc + 1) ((bind_ok _ _ hu).trans rfl)
  refine h.trans ?_
  rw [show pc + 1 - pc = 1 by omega]
set_option maxRecDepth 100000 in
theorem do_128 : dOK 128 dd_128 := fun c pc b r x hl hb hx => by
  cases hx
  have hu := u1_run hl
  rw [hb] at hu
  have h := dec_of (q := pc + 1) ((bind_ok _ _ hu).trans rfl)
  refine h.trans ?_
  rw [show pc + 1 - pc = 1 by omega]
set_option maxRecDepth 100000 in
theorem do_130 : dOK 130 dd_130 := fun c pc b r x hl hb hx => by
  cases hx
  have hu := u1_run hl
  rw [hb] at hu
  have h := dec_of (q := pc + 1) ((bind_ok _ _ hu).trans rfl)
  refine h.trans ?_
  rw [show pc + 1 - pc = 1 by omega]
set_option maxRecDepth 100000 in
theorem do_132 : dOK 132 dd_132 := fun c pc b r x hl hb hx => by
  match r, hl, hx with
  | a0 :: a1 :: t, hl, hx =>
    cases hx
    have hu := u1_run hl
    rw [hb] at hu
    have h := dec_of (q := pc + 1 + 1 + 1) ((bind_ok _ _ hu).trans ((bind_ok _ _ (u1_run (drop_s hl))).trans ((bind_ok _ _ (s1_run (drop_s (drop_s hl)))).trans rfl)))
    refine h.trans ?_
    rw [show pc + 1 + 1 + 1 - pc = 3 by omega]
  | [], hl, hx => cases hx
  | [_], hl, hx => cases hx
set_option maxRecDepth 100000 in
theorem do_133 : dOK 133 dd_133 := fun c pc b r x hl hb hx => by
  cases hx
  have hu := u1_run hl
  rw [hb] at hu
  have h := dec_of (q := pc + 1) ((bind_ok _ _ hu).trans rfl)
  refine h.trans ?_
  rw [show pc + 1 - pc = 1 by omega]
set_option maxRecDepth 100000 in
theorem do_136 : dOK 136 dd_136 := fun c pc b r x hl hb hx => by
  cases hx
  have hu := u1_run hl
  rw [hb] at hu
  have h := dec_of (q := pc + 1) ((bind_ok _ _ hu).trans rfl)
  refine h.trans ?_
  rw [show pc + 1 - pc = 1 by omega]
set_option maxRecDepth 100000 in
theorem do_148 : dOK 148 dd_148 := fun c pc b r x hl hb hx => by
  cases hx
  have hu := u1_run hl
  rw [hb] at hu
  have h := dec_of (q := pc + 1) ((bind_ok _ _ hu).trans rfl)
  refine h.trans ?_
  rw [show pc + 1 - pc = 1 by omega]
set_option maxRecDepth 100000 in
theorem do_153 : dOK 153 dd_153 := fun c pc b r x hl hb hx => by
  match r, hl, hx with
  | a0 :: a1 :: t, hl, hx =>
    cases hx
    have hu := u1_run hl
    rw [hb] at hu
    have h := dec_of (q := pc + 1 + 1 + 1) ((bind_ok _ _ hu).trans ((bind_ok _ _ (s2_run (drop_s hl))).trans rfl))
    refine h.trans ?_
    rw [show pc + 1 + 1 + 1 - pc = 3 by omega]
  | [], hl, hx => cases hx
  | [_], hl, hx => cases hx
set_option maxRecDepth 100000 in
theorem do_154 : dOK 154 dd_154 := fun c pc b r x hl hb hx => by
  match r, hl, hx with
  | a0 :: a1 :: t, hl, hx =>
    cases hx
    have hu := u1_run hl
    rw [hb] at hu
    have h := dec_of (q := pc + 1 + 1 + 1) ((bind_ok _ _ hu).trans ((bind_ok _ _ (s2_run (drop_s hl))).trans rfl))
    refine h.trans ?_
    rw [show pc + 1 + 1 + 1 - pc = 3 by omega]
  | [], hl, hx => cases hx
  | [_], hl, hx => cases hx
set_option maxRecDepth 100000 in
theorem do_155 : dOK 155 dd_155 := fun c pc b r x hl hb hx => by
  match r, hl, hx with
  | a0 :: a1 :: t, hl, hx =>
    cases hx
    have hu := u1_run hl
    rw [hb] at hu
    have h := dec_of (q := pc + 1 + 1 + 1) ((bind_ok _ _ hu).trans ((bind_ok _ _ (s2_run (drop_s hl))).trans rfl))
    refine h.trans ?_
    rw [show pc + 1 + 1 + 1 - pc = 3 by omega]
  | [], hl, hx => cases hx
  | [_], hl, hx => cases hx
set_option maxRecDepth 100000 in
theorem do_156 : dOK 156 dd_156 := fun c pc b r x hl hb hx => by
  match r, hl, hx with
  | a0 :: a1 :: t, hl, hx =>
    cases hx
    have hu := u1_run hl
    rw [hb] at hu
    have h := dec_of (q := pc + 1 + 1 + 1) ((bind_ok _ _ hu).trans ((bind_ok _ _ (s2_run (drop_s hl))).trans rfl))
    refine h.trans ?_
    rw [show pc + 1 + 1 + 1 - pc = 3 by omega]
  | [], hl, hx => cases hx
  | [_], hl, hx => cases hx
set_option maxRecDepth 100000 in
theorem do_157 : dOK 157 dd_157 := fun c pc b r x hl hb hx => by
  match r, hl, hx with
  | a0 :: a1 :: t, hl, hx =>
    cases hx
    have hu := u1_run hl
    rw [hb] at hu
    have h := dec_of (q := pc + 1 + 1 + 1) ((bind_ok _ _ hu).trans ((bind_ok _ _ (s2_run (drop_s hl))).trans rfl))
    refine h.trans ?_
    rw [show pc + 1 + 1 + 1 - pc = 3 by omega]
  | [], hl, hx => cases hx
  | [_], hl, hx => cases hx
set_option maxRecDepth 100000 in
theorem do_158 : dOK 158 dd_158 := fun c pc b r x hl hb hx => by
  match r, hl, hx with
  | a0 :: a1 :: t, hl, hx =>
    cases hx
    have hu := u1_run hl
    rw [hb] at hu
    have h := dec_of (q := pc + 1 + 1 + 1) ((bind_ok _ _ hu).trans ((bind_ok _ _ (s2_run (drop_s hl))).trans rfl))
    refine h.trans ?_
    rw [show pc + 1 + 1 + 1 - pc = 3 by omega]
  | [], hl, hx => cases hx
  | [_], hl, hx => cases hx
set_option maxRecDepth 100000 in
theorem do_159 : dOK 159 dd_159 := fun c pc b r x hl hb hx => by
  match r, hl, hx with
  | a0 :: a1 :: t, hl, hx =>
    cases hx
    have hu := u1_run hl
    rw [hb] at hu
    have h := dec_of (q := pc + 1 + 1 + 1) ((bind_ok _ _ hu).trans ((bind_ok _ _ (s2_run (drop_s hl))).trans rfl))
    refine h.trans ?_
    rw [show pc + 1 + 1 + 1 - pc = 3 by omega]
  | [], hl, hx => cases hx
  | [_], hl, hx => cases hx
set_option maxRecDepth 100000 in
theorem do_160 : dOK 160 dd_160 := fun c pc b r x hl hb hx => by
  match r, hl, hx with
  | a0 :: a1 :: t, hl, hx =>
    cases hx
    have hu := u1_run hl
    rw [hb] at hu
    have h := dec_of (q := pc + 1 + 1 + 1) ((bind_ok _ _ hu).trans ((bind_ok _ _ (s2_run (drop_s hl))).trans rfl))
    refine h.trans ?_
    rw [show pc + 1 + 1 + 1 - pc = 3 by omega]
  | [], hl, hx => cases hx
  | [_], hl, hx => cases hx
set_option maxRecDepth 100000 in
theorem do_161 : dOK 161 dd_161 := fun c pc b r x hl hb hx => by
  match r, hl, hx with
  | a0 :: a1 :: t, hl, hx =>
    cases hx
    have hu := u1_run hl
    rw [hb] at hu
    have h := dec_of (q := pc + 1 + 1 + 1) ((bind_ok _ _ hu).trans ((bind_ok _ _ (s2_run (drop_s hl))).trans rfl))
    refine h.trans ?_
    rw [show pc + 1 + 1 + 1 - pc = 3 by omega]
  | [], hl, hx => cases hx
  | [_], hl, hx => cases hx
set_option maxRecDepth 100000 in
theorem do_162 : dOK 162 dd_162 := fun c pc b r x hl hb hx => by
  match r, hl, hx with
  | a0 :: a1 :: t, hl, hx =>
    cases hx
    have hu := u1_run hl
    rw [hb] at hu
    have h := dec_of (q := pc + 1 + 1 + 1) ((bind_ok _ _ hu).trans ((bind_ok _ _ (s2_run (drop_s hl))).trans rfl))
    refine h.trans ?_
    rw [show pc + 1 + 1 + 1 - pc = 3 by omega]
  | [], hl, hx => cases hx
  | [_], hl, hx => cases hx
set_option maxRecDepth 100000 in
theorem do_163 : dOK 163 dd_163 := fun c pc b r x hl hb hx => by
  match r, hl, hx with
  | a0 :: a1 :: t, hl, hx =>
    cases hx
    have hu := u1_run hl
    rw [hb] at hu
    have h := dec_of (q := pc + 1 + 1 + 1) ((bind_ok _ _ hu).trans ((bind_ok _ _ (s2_run (drop_s hl))).trans rfl))
    refine h.trans ?_
    rw [show pc + 1 + 1 + 1 - pc = 3 by omega]
  | [], hl, hx => cases hx
  | [_], hl, hx => cases hx
set_option maxRecDepth 100000 in
theorem do_164 : dOK 164 dd_164 := fun c pc b r x hl hb hx => by
  match r, hl, hx with
  | a0 :: a1 :: t, hl, hx =>
    cases hx
    have hu := u1_run hl
    rw [hb] at hu
    have h := dec_of (q := pc + 1 + 1 + 1) ((bind_ok _ _ hu).trans ((bind_ok _ _ (s2_run (drop_s hl))).trans rfl))
    refine h.trans ?_
    rw [show pc + 1 + 1 + 1 - pc = 3 by omega]
  | [], hl, hx => cases hx
  | [_], hl, hx => cases hx
set_option maxRecDepth 100000 in
theorem do_165 : dOK 165 dd_165 := fun c pc b r x hl hb hx => by
  match r, hl, hx with
  | a0 :: a1 :: t, hl, hx =>
    cases hx
    have hu := u1_run hl
    rw [hb] at hu
    have h := dec_of (q := pc + 1 + 1 + 1) ((bind_ok _ _ hu).trans ((bind_ok _ _ (s2_run (drop_s hl))).trans rfl))
    refine h.trans ?_
    rw [show pc + 1 + 1 + 1 - pc = 3 by omega]
  | [], hl, hx => cases hx
  | [_], hl, hx => cases hx
set_option maxRecDepth 100000 in
theorem do_166 : dOK 166 dd_166 := fun c pc b r x hl hb hx => by
  match r, hl, hx with
  | a0 :: a1 :: t, hl, hx =>
    cases hx
    have hu := u1_run hl
    rw [hb] at hu
    have h := dec_of (q := pc + 1 + 1 + 1) ((bind_ok _ _ hu).trans ((bind_ok _ _ (s2_run (drop_s hl))).trans rfl))
    refine h.trans ?_
    rw [show pc + 1 + 1 + 1 - pc = 3 by omega]
  | [], hl, hx => cases hx
  | [_], hl, hx => cases hx
set_option maxRecDepth 100000 in
theorem do_167 : dOK 167 dd_167 := fun c pc b r x hl hb hx => by
  match r, hl, hx with
  | a0 :: a1 :: t, hl, hx =>
    cases hx
    have hu := u1_run hl
    rw [hb] at hu
    have h := dec_of (q := pc + 1 + 1 + 1) ((bind_ok _ _ hu).trans ((bind_ok _ _ (s2_run (drop_s hl))).trans rfl))
    refine h.trans ?_
    rw [show pc + 1 + 1 + 1 - pc = 3 by omega]
  | [], hl, hx => cases hx
  | [_], hl, hx => cases hx
set_option maxRecDepth 100000 in
theorem do_172 : dOK 172 dd_172 := fun c pc b r x hl hb hx => by
  cases hx
  have hu := u1_run hl
  rw [hb] at hu
  have h := dec_of (q := pc + 1) ((bind_ok _ _ hu).trans rfl)
  refine h.trans ?_
  rw [show pc + 1 - pc = 1 by omega]
set_option maxRecDepth 100000 in
theorem do_173 : dOK 173 dd_173 := fun c pc b r x hl hb hx => by
  cases hx
  have hu := u1_run hl
  rw [hb] at hu
  have h := dec_of (q := pc + 1) ((bind_ok _ _ hu).trans rfl)
  refine h.trans ?_
  rw [show pc + 1 - pc = 1 by omega]
set_option maxRecDepth 100000 in
theorem do_176 : dOK 176 dd_176 := fun c pc b r x hl hb hx => by
  cases hx
  have hu := u1_run hl
  rw [hb] at hu
  have h := dec_of (q := pc + 1) ((bind_ok _ _ hu).trans rfl)
  refine h.trans ?_
  rw [show pc + 1 - pc = 1 by omega]
set_option maxRecDepth 100000 in
theorem do_177 : dOK 177 dd_177 := fun c pc b r x hl hb hx => by
  cases hx
  have hu := u1_run hl
  rw [hb] at hu
  have h := dec_of (q := pc + 1) ((bind_ok _ _ hu).trans rfl)
  refine h.trans ?_
  rw [show pc + 1 - pc = 1 by omega]
set_option maxRecDepth 100000 in
theorem do_178 : dOK 178 dd_178 := fun c pc b r x hl hb hx => by
  match r, hl, hx with
  | a0 :: a1 :: t, hl, hx =>
    cases hx
    have hu := u1_run hl
    rw [hb] at hu
    have h := dec_of (q := pc + 1 + 1 + 1) ((bind_ok _ _ hu).trans ((bind_ok _ _ (u2_run (drop_s hl))).trans rfl))
    refine h.trans ?_
    rw [show pc + 1 + 1 + 1 - pc = 3 by omega]
  | [], hl, hx => cases hx
  | [_], hl, hx => cases hx
set_option maxRecDepth 100000 in
theorem do_179 : dOK 179 dd_179 := fun c pc b r x hl hb hx => by
  match r, hl, hx with
  | a0 :: a1 :: t, hl, hx =>
    cases hx
    have hu := u1_run hl
    rw [hb] at hu
    have h := dec_of (q := pc + 1 + 1 + 1) ((bind_ok _ _ hu).trans ((bind_ok _ _ (u2_run (drop_s hl))).trans rfl))
    refine h.trans ?_
    rw [show pc + 1 + 1 + 1 - pc = 3 by omega]
  | [], hl, hx => cases hx
  | [_], hl, hx => cases hx
set_option maxRecDepth 100000 in
theorem do_180 : dOK 180 dd_180 := fun c pc b r x hl hb hx => by
  match r, hl, hx with
  | a0 :: a1 :: t, hl, hx =>
    cases hx
    have hu := u1_run hl
    rw [hb] at hu
    have h := dec_of (q := pc + 1 + 1 + 1) ((bind_ok _ _ hu).trans ((bind_ok _ _ (u2_run (drop_s hl))).trans rfl))
    refine h.trans ?_
    rw [show pc + 1 + 1 + 1 - pc = 3 by omega]
  | [], hl, hx => cases hx
  | [_], hl, hx => cases hx
set_option maxRecDepth 100000 in
theorem do_181 : dOK 181 dd_181 := fun c pc b r x hl hb hx => by
  match r, hl, hx with
  | a0 :: a1 :: t, hl, hx =>
    cases hx
    have hu := u1_run hl
    rw [hb] at hu
    have h := dec_of (q := pc + 1 + 1 + 1) ((bind_ok _ _ hu).trans ((bind_ok _ _ (u2_run (drop_s hl))).trans rfl))
    refine h.trans ?_
    rw [show pc + 1 + 1 + 1 - pc = 3 by omega]
  | [], hl, hx => cases hx
  | [_], hl, hx => cases hx
set_option maxRecDepth 100000 in
theorem do_182 : dOK 182 dd_182 := fun c pc b r x hl hb hx => by
  match r, hl, hx with
  | a0 :: a1 :: t, hl, hx =>
    cases hx
    have hu := u1_run hl
    rw [hb] at hu
    have h := dec_of (q := pc + 1 + 1 + 1) ((bind_ok _ _ hu).trans ((bind_ok _ _ (u2_run (drop_s hl))).trans rfl))
    refine h.trans ?_
    rw [show pc + 1 + 1 + 1 - pc = 3 by omega]
  | [], hl, hx => cases hx
  | [_], hl, hx => cases hx
set_option maxRecDepth 100000 in
theorem do_183 : dOK 183 dd_183 := fun c pc b r x hl hb hx => by
  match r, hl, hx with
  | a0 :: a1 :: t, hl, hx =>
    cases hx
    have hu := u1_run hl
    rw [hb] at hu
    have h := dec_of (q := pc + 1 + 1 + 1) ((bind_ok _ _ hu).trans ((bind_ok _ _ (u2_run (drop_s hl))).trans rfl))
    refine h.trans ?_
    rw [show pc + 1 + 1 + 1 - pc = 3 by omega]
  | [], hl, hx => cases hx
  | [_], hl, hx => cases hx
set_option maxRecDepth 100000 in
theorem do_184 : dOK 184 dd_184 := fun c pc b r x hl hb hx => by
  match r, hl, hx with
  | a0 :: a1 :: t, hl, hx =>
    cases hx
    have hu := u1_run hl
    rw [hb] at hu
    have h := dec_of (q := pc + 1 + 1 + 1) ((bind_ok _ _ hu).trans ((bind_ok _ _ (u2_run (drop_s hl))).trans rfl))
    refine h.trans ?_
    rw [show pc + 1 + 1 + 1 - pc = 3 by omega]
  | [], hl, hx => cases hx
  | [_], hl, hx => cases hx
set_option maxRecDepth 100000 in
theorem do_187 : dOK 187 dd_187 := fun c pc b r x hl hb hx => by
  match r, hl, hx with
  | a0 :: a1 :: t, hl, hx =>
    cases hx
    have hu := u1_run hl
    rw [hb] at hu
    have h := dec_of (q := pc + 1 + 1 + 1) ((bind_ok _ _ hu).trans ((bind_ok _ _ (u2_run (drop_s hl))).trans rfl))
    refine h.trans ?_
    rw [show pc + 1 + 1 + 1 - pc = 3 by omega]
  | [], hl, hx => cases hx
  | [_], hl, hx => cases hx
set_option maxRecDepth 100000 in
theorem do_189 : dOK 189 dd_189 := fun c pc b r x hl hb hx => by
  match r, hl, hx with
  | a0 :: a1 :: t, hl, hx =>
    cases hx
    have hu := u1_run hl
    rw [hb] at hu
    have h := dec_of (q := pc + 1 + 1 + 1) ((bind_ok _ _ hu).trans ((bind_ok _ _ (u2_run (drop_s hl))).trans rfl))
    refine h.trans ?_
    rw [show pc + 1 + 1 + 1 - pc = 3 by omega]
  | [], hl, hx => cases hx
  | [_], hl, hx => cases hx
set_option maxRecDepth 100000 in
theorem do_190 : dOK 190 dd_190 := fun c pc b r x hl hb hx => by
  cases hx
  have hu := u1_run hl
  rw [hb] at hu
  have h := dec_of (q := pc + 1) ((bind_ok _ _ hu).trans rfl)
  refine h.trans ?_
  rw [show pc + 1 - pc = 1 by omega]
set_option maxRecDepth 100000 in
theorem do_192 : dOK 192 dd_192 := fun c pc b r x hl hb hx => by
  match r, hl, hx with
  | a0 :: a1 :: t, hl, hx =>
    cases hx
    have hu := u1_run hl
    rw [hb] at hu
    have h := dec_of (q := pc + 1 + 1 + 1) ((bind_ok _ _ hu).trans ((bind_ok _ _ (u2_run (drop_s hl))).trans rfl))
    refine h.trans ?_
    rw [show pc + 1 + 1 + 1 - pc = 3 by omega]
  | [], hl, hx => cases hx
  | [_], hl, hx => cases hx
set_option maxRecDepth 100000 in
theorem do_198 : dOK 198 dd_198 := fun c pc b r x hl hb hx => by
  match r, hl, hx with
  | a0 :: a1 :: t, hl, hx =>
    cases hx
    have hu := u1_run hl
    rw [hb] at hu
    have h := dec_of (q := pc + 1 + 1 + 1) ((bind_ok _ _ hu).trans ((bind_ok _ _ (s2_run (drop_s hl))).trans rfl))
    refine h.trans ?_
    rw [show pc + 1 + 1 + 1 - pc = 3 by omega]
  | [], hl, hx => cases hx
  | [_], hl, hx => cases hx
set_option maxRecDepth 100000 in
theorem do_199 : dOK 199 dd_199 := fun c pc b r x hl hb hx => by
  match r, hl, hx with
  | a0 :: a1 :: t, hl, hx =>
    cases hx
    have hu := u1_run hl
    rw [hb] at hu
    have h := dec_of (q := pc + 1 + 1 + 1) ((bind_ok _ _ hu).trans ((bind_ok _ _ (s2_run (drop_s hl))).trans rfl))
    refine h.trans ?_
    rw [show pc + 1 + 1 + 1 - pc = 3 by omega]
  | [], hl, hx => cases hx
  | [_], hl, hx => cases hx
noncomputable def dAll : Nat → List dF → Prop
  | _, [] => True
  | n, f :: fs => dOK n f ∧ dAll (n + 1) fs
noncomputable def dTab : List dF := [dNo, dd_1, dd_2, dd_3, dd_4, dd_5, dd_6, dd_7, dd_8, dd_9, dd_10, dNo, dNo, dNo, dNo, dNo, dd_16, dd_17, dNo, dNo, dd_20, dd_21, dd_22, dNo, dNo, dd_25, dd_26, dd_27, dd_28, dd_29, dd_30, dd_31, dd_32, dd_33, dNo, dNo, dNo, dNo, dNo, dNo, dNo, dNo, dd_42, dd_43, dd_44, dd_45, dd_46, dd_47, dNo, dNo, dd_50, dd_51, dNo, dNo, dd_54, dd_55, dNo, dNo, dd_58, dd_59, dd_60, dd_61, dd_62, dd_63, dd_64, dd_65, dd_66, dNo, dNo, dNo, dNo, dNo, dNo, dNo, dNo, dd_75, dd_76, dd_77, dd_78, dd_79, dNo, dNo, dNo, dd_83, dd_84, dNo, dNo, dd_87, dd_88, dd_89, dNo, dNo, dd_92, dNo, dNo, dNo, dd_96, dd_97, dNo, dNo, dd_100, dd_101, dNo, dNo, dd_104, dd_105, dNo, dNo, dd_108, dd_109, dNo, dNo, dd_112, dd_113, dNo, dNo, dd_116, dNo, dNo, dNo, dd_120, dNo, dd_122, dNo, dd_124, dNo, dd_126, dd_127, dd_128, dNo, dd_130, dNo, dd_132, dd_133, dNo, dNo, dd_136, dNo, dNo, dNo, dNo, dNo, dNo, dNo, dNo, dNo, dNo, dNo, dd_148, dNo, dNo, dNo, dNo, dd_153, dd_154, dd_155, dd_156, dd_157, dd_158, dd_159, dd_160, dd_161, dd_162, dd_163, dd_164, dd_165, dd_166, dd_167, dNo, dNo, dNo, dNo, dd_172, dd_173, dNo, dNo, dd_176, dd_177, dd_178, dd_179, dd_180, dd_181, dd_182, dd_183, dd_184, dNo, dNo, dd_187, dNo, dd_189, dd_190, dNo, dd_192, dNo, dNo, dNo, dNo, dNo, dd_198, dd_199]
theorem dTab_ok : dAll 0 dTab := ⟨dNo_ok _, ⟨do_1, ⟨do_2, ⟨do_3, ⟨do_4, ⟨do_5, ⟨do_6, ⟨do_7, ⟨do_8, ⟨do_9, ⟨do_10, ⟨dNo_ok _, ⟨dNo_ok _, ⟨dNo_ok _, ⟨dNo_ok _, ⟨dNo_ok _, ⟨do_16, ⟨do_17, ⟨dNo_ok _, ⟨dNo_ok _, ⟨do_20, ⟨do_21, ⟨do_22, ⟨dNo_ok _, ⟨dNo_ok _, ⟨do_25, ⟨do_26, ⟨do_27, ⟨do_28, ⟨do_29, ⟨do_30, ⟨do_31, ⟨do_32, ⟨do_33, ⟨dNo_ok _, ⟨dNo_ok _, ⟨dNo_ok _, ⟨dNo_ok _, ⟨dNo_ok _, ⟨dNo_ok _, ⟨dNo_ok _, ⟨dNo_ok _, ⟨do_42, ⟨do_43, ⟨do_44, ⟨do_45, ⟨do_46, ⟨do_47, ⟨dNo_ok _, ⟨dNo_ok _, ⟨do_50, ⟨do_51, ⟨dNo_ok _, ⟨dNo_ok _, ⟨do_54, ⟨do_55, ⟨dNo_ok _, ⟨dNo_ok _, ⟨do_58, ⟨do_59, ⟨do_60, ⟨do_61, ⟨do_62, ⟨do_63, ⟨do_64, ⟨do_65, ⟨do_66, ⟨dNo_ok _, ⟨dNo_ok _, ⟨dNo_ok _, ⟨dNo_ok _, ⟨dNo_ok _, ⟨dNo_ok _, ⟨dNo_ok _, ⟨dNo_ok _, ⟨do_75, ⟨do_76, ⟨do_77, ⟨do_78, ⟨do_79, ⟨dNo_ok _, ⟨dNo_ok _, ⟨dNo_ok _, ⟨do_83, ⟨do_84, ⟨dNo_ok _, ⟨dNo_ok _, ⟨do_87, ⟨do_88, ⟨do_89, ⟨dNo_ok _, ⟨dNo_ok _, ⟨do_92, ⟨dNo_ok _, ⟨dNo_ok _, ⟨dNo_ok _, ⟨do_96, ⟨do_97, ⟨dNo_ok _, ⟨dNo_ok _, ⟨do_100, ⟨do_101, ⟨dNo_ok _, ⟨dNo_ok _, ⟨do_104, ⟨do_105, ⟨dNo_ok _, ⟨dNo_ok _, ⟨do_108, ⟨do_109, ⟨dNo_ok _, ⟨dNo_ok _, ⟨do_112, ⟨do_113, ⟨dNo_ok _, ⟨dNo_ok _, ⟨do_116, ⟨dNo_ok _, ⟨dNo_ok _, ⟨dNo_ok _, ⟨do_120, ⟨dNo_ok _, ⟨do_122, ⟨dNo_ok _, ⟨do_124, ⟨dNo_ok _, ⟨do_126, ⟨do_127, ⟨do_128, ⟨dNo_ok _, ⟨do_130, ⟨dNo_ok _, ⟨do_132, ⟨do_133, ⟨dNo_ok _, ⟨dNo_ok _, ⟨do_136, ⟨dNo_ok _, ⟨dNo_ok _, ⟨dNo_ok _, ⟨dNo_ok _, ⟨dNo_ok _, ⟨dNo_ok _, ⟨dNo_ok _, ⟨dNo_ok _, ⟨dNo_ok _, ⟨dNo_ok _, ⟨dNo_ok _, ⟨do_148, ⟨dNo_ok _, ⟨dNo_ok _, ⟨dNo_ok _, ⟨dNo_ok _, ⟨do_153, ⟨do_154, ⟨do_155, ⟨do_156, ⟨do_157, ⟨do_158, ⟨do_159, ⟨do_160, ⟨do_161, ⟨do_162, ⟨do_163, ⟨do_164, ⟨do_165, ⟨do_166, ⟨do_167, ⟨dNo_ok _, ⟨dNo_ok _, ⟨dNo_ok _, ⟨dNo_ok _, ⟨do_172, ⟨do_173, ⟨dNo_ok _, ⟨dNo_ok _, ⟨do_176, ⟨do_177, ⟨do_178, ⟨do_179, ⟨do_180, ⟨do_181, ⟨do_182, ⟨do_183, ⟨do_184, ⟨dNo_ok _, ⟨dNo_ok _, ⟨do_187, ⟨dNo_ok _, ⟨do_189, ⟨do_190, ⟨dNo_ok _, ⟨do_192, ⟨dNo_ok _, ⟨dNo_ok _, ⟨dNo_ok _, ⟨dNo_ok _, ⟨dNo_ok _, ⟨do_198, ⟨do_199, trivial⟩⟩⟩⟩⟩⟩⟩⟩⟩⟩⟩⟩⟩⟩⟩⟩⟩⟩⟩⟩⟩⟩⟩⟩⟩⟩⟩⟩⟩⟩⟩⟩⟩⟩⟩⟩⟩⟩⟩⟩⟩⟩⟩⟩⟩⟩⟩⟩⟩⟩⟩⟩⟩⟩⟩⟩⟩⟩⟩⟩⟩⟩⟩⟩⟩⟩⟩⟩⟩⟩⟩⟩⟩⟩⟩⟩⟩⟩⟩⟩⟩⟩⟩⟩⟩⟩⟩⟩⟩⟩⟩⟩⟩⟩⟩⟩⟩⟩⟩⟩⟩⟩⟩⟩⟩⟩⟩⟩⟩⟩⟩⟩⟩⟩⟩⟩⟩⟩⟩⟩⟩⟩⟩⟩⟩⟩⟩⟩⟩⟩⟩⟩⟩⟩⟩⟩⟩⟩⟩⟩⟩⟩⟩⟩⟩⟩⟩⟩⟩⟩⟩⟩⟩⟩⟩⟩⟩⟩⟩⟩⟩⟩⟩⟩⟩⟩⟩⟩⟩⟩⟩⟩⟩⟩⟩⟩⟩⟩⟩⟩⟩⟩⟩⟩⟩⟩⟩⟩⟩⟩⟩⟩⟩⟩⟩⟩⟩⟩⟩⟩
theorem dAll_at : ∀ (l : List dF) (n : Nat), dAll n l → ∀ (k : Nat) (f : dF), l[k]? = some f → dOK (n + k) f
  | [], _, _, k, f, h => by cases h
  | g :: gs, n, q, 0, f, h => by
    cases h
    exact q.1
  | g :: gs, n, q, k + 1, f, h => by
    have e := dAll_at gs (n + 1) q.2 k f h
    rw [show n + 1 + k = n + (k + 1) by omega] at e
    exact e
noncomputable def dI (l : List UInt8) : Option (Instr × Nat) := match l with
  | [] => none
  | b :: r => match zz_pth dTab b.toNat with
    | some f => f r
    | none => none
theorem dI_ok {c : ByteArray} {pc : Nat} {x : Instr × Nat} (h : dI (c.data.toList.drop pc) = some x) : decode c pc = .ok x := by
  match e : c.data.toList.drop pc with
  | [] =>
    rw [e] at h
    cases h
  | b :: r =>
    rw [e] at h
    have h : (match zz_pth dTab b.toNat with
      | some f => f r
      | none => none) = some x := h
    match e2 : zz_pth dTab b.toNat with
    | none =>
      rw [e2] at h
      cases h
    | some f =>
      rw [e2] at h
      have k := dAll_at dTab 0 dTab_ok b.toNat f ((zz_pth_eq dTab b.toNat).symm.trans e2)
      rw [Nat.zero_add] at k
      exact k c pc b r x e rfl h
/-- an instruction against another, quickly -/
noncomputable def zq_aload_n (b : Instr) (n : Fin 4) : Bool := match b with
  | .aload_n x => decide (n = x)
  | _ => false
theorem zqo_aload_n {b : Instr} {n : Fin 4} (h : zq_aload_n b n = true) : Instr.aload_n n = b := by
  unfold zq_aload_n at h
  split at h
  · rw [of_decide_eq_true h]
  · cases h
noncomputable def zq_iload_n (b : Instr) (n : Fin 4) : Bool := match b with
  | .iload_n x => decide (n = x)
  | _ => false
theorem zqo_iload_n {b : Instr} {n : Fin 4} (h : zq_iload_n b n = true) : Instr.iload_n n = b := by
  unfold zq_iload_n at h
  split at h
  · rw [of_decide_eq_true h]
  · cases h
noncomputable def zq_iconst (b : Instr) (n : Int) : Bool := match b with
  | .iconst x => decide (n = x)
  | _ => false
theorem zqo_iconst {b : Instr} {n : Int} (h : zq_iconst b n = true) : Instr.iconst n = b := by
  unfold zq_iconst at h
  split at h
  · rw [of_decide_eq_true h]
  · cases h
noncomputable def zq_getfield (b : Instr) (n : Nat) : Bool := match b with
  | .getfield x => decide (n = x)
  | _ => false
theorem zqo_getfield {b : Instr} {n : Nat} (h : zq_getfield b n = true) : Instr.getfield n = b := by
  unfold zq_getfield at h
  split at h
  · rw [of_decide_eq_true h]
  · cases h
noncomputable def zq_invokevirtual (b : Instr) (n : Nat) : Bool := match b with
  | .invokevirtual x => decide (n = x)
  | _ => false
theorem zqo_invokevirtual {b : Instr} {n : Nat} (h : zq_invokevirtual b n = true) : Instr.invokevirtual n = b := by
  unfold zq_invokevirtual at h
  split at h
  · rw [of_decide_eq_true h]
  · cases h
noncomputable def zq_ireturn (b : Instr) : Bool := match b with
  | .ireturn => true
  | _ => false
theorem zqo_ireturn {b : Instr} (h : zq_ireturn b = true) : Instr.ireturn = b := by
  unfold zq_ireturn at h
  split at h
  · rfl
  · cases h
noncomputable def zq_iload (b : Instr) (n : Nat) : Bool := match b with
  | .iload x => decide (n = x)
  | _ => false
theorem zqo_iload {b : Instr} {n : Nat} (h : zq_iload b n = true) : Instr.iload n = b := by
  unfold zq_iload at h
  split at h
  · rw [of_decide_eq_true h]
  · cases h
noncomputable def zq_goto (b : Instr) (n : Int) : Bool := match b with
  | .goto x => decide (n = x)
  | _ => false
theorem zqo_goto {b : Instr} {n : Int} (h : zq_goto b n = true) : Instr.goto n = b := by
  unfold zq_goto at h
  split at h
  · rw [of_decide_eq_true h]
  · cases h
noncomputable def zq_iaload (b : Instr) : Bool := match b with
  | .iaload => true
  | _ => false
theorem zqo_iaload {b : Instr} (h : zq_iaload b = true) : Instr.iaload = b := by
  unfold zq_iaload at h
  split at h
  · rfl
  · cases h
noncomputable def zq_ifCond (b : Instr) (n : Jvm.ClassFile.Cond) (m : Int) : Bool := match b with
  | .ifCond x y => decide (n = x) && decide (m = y)
  | _ => false
theorem zqo_ifCond {b : Instr} {n : Jvm.ClassFile.Cond} {m : Int} (h : zq_ifCond b n m = true) : Instr.ifCond n m = b := by
  unfold zq_ifCond at h
  split at h
  · have h := (Bool.and_eq_true _ _).mp h
    rw [of_decide_eq_true h.1, of_decide_eq_true h.2]
  · cases h
noncomputable def zq_bipush (b : Instr) (n : Int) : Bool := match b with
  | .bipush x => decide (n = x)
  | _ => false
theorem zqo_bipush {b : Instr} {n : Int} (h : zq_bipush b n = true) : Instr.bipush n = b := by
  unfold zq_bipush at h
  split at h
  · rw [of_decide_eq_true h]
  · cases h
noncomputable def zq_if_icmp (b : Instr) (n : Jvm.ClassFile.Cond) (m : Int) : Bool := match b with
  | .if_icmp x y => decide (n = x) && decide (m = y)
  | _ => false
theorem zqo_if_icmp {b : Instr} {n : Jvm.ClassFile.Cond} {m : Int} (h : zq_if_icmp b n m = true) : Instr.if_icmp n m = b := by
  unfold zq_if_icmp at h
  split at h
  · have h := (Bool.and_eq_true _ _).mp h
    rw [of_decide_eq_true h.1, of_decide_eq_true h.2]
  · cases h
noncomputable def zq_iadd (b : Instr) : Bool := match b with
  | .iadd => true
  | _ => false
theorem zqo_iadd {b : Instr} (h : zq_iadd b = true) : Instr.iadd = b := by
  unfold zq_iadd at h
  split at h
  · rfl
  · cases h
noncomputable def zq_istore_n (b : Instr) (n : Fin 4) : Bool := match b with
  | .istore_n x => decide (n = x)
  | _ => false
theorem zqo_istore_n {b : Instr} {n : Fin 4} (h : zq_istore_n b n = true) : Instr.istore_n n = b := by
  unfold zq_istore_n at h
  split at h
  · rw [of_decide_eq_true h]
  · cases h
noncomputable def zq_putfield (b : Instr) (n : Nat) : Bool := match b with
  | .putfield x => decide (n = x)
  | _ => false
theorem zqo_putfield {b : Instr} {n : Nat} (h : zq_putfield b n = true) : Instr.putfield n = b := by
  unfold zq_putfield at h
  split at h
  · rw [of_decide_eq_true h]
  · cases h
noncomputable def zq_istore (b : Instr) (n : Nat) : Bool := match b with
  | .istore x => decide (n = x)
  | _ => false
theorem zqo_istore {b : Instr} {n : Nat} (h : zq_istore b n = true) : Instr.istore n = b := by
  unfold zq_istore at h
  split at h
  · rw [of_decide_eq_true h]
  · cases h
noncomputable def zq_invokestatic (b : Instr) (n : Nat) : Bool := match b with
  | .invokestatic x => decide (n = x)
  | _ => false
theorem zqo_invokestatic {b : Instr} {n : Nat} (h : zq_invokestatic b n = true) : Instr.invokestatic n = b := by
  unfold zq_invokestatic at h
  split at h
  · rw [of_decide_eq_true h]
  · cases h
noncomputable def zq_iinc (b : Instr) (n : Nat) (m : Int) : Bool := match b with
  | .iinc x y => decide (n = x) && decide (m = y)
  | _ => false
theorem zqo_iinc {b : Instr} {n : Nat} {m : Int} (h : zq_iinc b n m = true) : Instr.iinc n m = b := by
  unfold zq_iinc at h
  split at h
  · have h := (Bool.and_eq_true _ _).mp h
    rw [of_decide_eq_true h.1, of_decide_eq_true h.2]
  · cases h
noncomputable def zq_iastore (b : Instr) : Bool := match b with
  | .iastore => true
  | _ => false
theorem zqo_iastore {b : Instr} (h : zq_iastore b = true) : Instr.iastore = b := by
  unfold zq_iastore at h
  split at h
  · rfl
  · cases h
noncomputable def zq_pop (b : Instr) : Bool := match b with
  | .pop => true
  | _ => false
theorem zqo_pop {b : Instr} (h : zq_pop b = true) : Instr.pop = b := by
  unfold zq_pop at h
  split at h
  · rfl
  · cases h
noncomputable def zz_ieq (a b : Instr) : Bool := match a with
  | .aload_n n => zq_aload_n b n
  | .iload_n n => zq_iload_n b n
  | .iconst n => zq_iconst b n
  | .getfield n => zq_getfield b n
  | .invokevirtual n => zq_invokevirtual b n
  | .ireturn => zq_ireturn b
  | .iload n => zq_iload b n
  | .goto n => zq_goto b n
  | .iaload => zq_iaload b
  | .ifCond n m => zq_ifCond b n m
  | .bipush n => zq_bipush b n
  | .if_icmp n m => zq_if_icmp b n m
  | .iadd => zq_iadd b
  | .istore_n n => zq_istore_n b n
  | .putfield n => zq_putfield b n
  | .istore n => zq_istore b n
  | .invokestatic n => zq_invokestatic b n
  | .iinc n m => zq_iinc b n m
  | .iastore => zq_iastore b
  | .pop => zq_pop b
  | a => decide (a = b)
theorem zz_ieq_ok {a b : Instr} (h : zz_ieq a b = true) : a = b := by
  unfold zz_ieq at h
  split at h
  · exact zqo_aload_n h
  · exact zqo_iload_n h
  · exact zqo_iconst h
  · exact zqo_getfield h
  · exact zqo_invokevirtual h
  · exact zqo_ireturn h
  · exact zqo_iload h
  · exact zqo_goto h
  · exact zqo_iaload h
  · exact zqo_ifCond h
  · exact zqo_bipush h
  · exact zqo_if_icmp h
  · exact zqo_iadd h
  · exact zqo_istore_n h
  · exact zqo_putfield h
  · exact zqo_istore h
  · exact zqo_invokestatic h
  · exact zqo_iinc h
  · exact zqo_iastore h
  · exact zqo_pop h
  · exact of_decide_eq_true h
noncomputable def zz_rst (own nm : String) (e : zz_I) : Bool := match e with
  | (_, ins, len, r, v0) => (decide (zz_len ins = 0) || decide (len = zz_len ins)) && (zz_tb own nm ins r v0 && (zz_at3 own ins r && (zz_tn own ins r && zz_tc2 own ins r)))
noncomputable def zz_rstf (own nm : String) (e : zz_I) : Bool := match e with
  | (_, ins, len, r, v0) => (decide (zz_len ins = 0) || decide (len = zz_len ins)) && (zz_tb own nm ins r v0 && (zz_at3 own ins r && (zz_tn own ins r && zz_tc2q own ins r)))
theorem zz_rste (own nm : String) (e : zz_I) : zz_rst own nm e = zz_rstf own nm e := by
  unfold zz_rst zz_rstf
  simp only [zz_tc2e]
/-- the frequent ones ask nothing of the tables -/
noncomputable def zz_rstq (own nm : String) (e : zz_I) : Bool := match e.2.1 with
  | .aload_n _ => decide (e.2.2.1 = 1)
  | .iload_n _ => decide (e.2.2.1 = 1)
  | .iconst _ => decide (e.2.2.1 = 1)
  | .ireturn => decide (e.2.2.1 = 1)
  | .iload _ => decide (e.2.2.1 = 2)
  | .goto _ => decide (e.2.2.1 = 3)
  | .iaload => decide (e.2.2.1 = 1)
  | .ifCond _ _ => decide (e.2.2.1 = 3)
  | .bipush _ => decide (e.2.2.1 = 2)
  | .if_icmp _ _ => decide (e.2.2.1 = 3)
  | .iadd => decide (e.2.2.1 = 1)
  | .istore_n _ => decide (e.2.2.1 = 1)
  | .istore _ => decide (e.2.2.1 = 2)
  | .iinc _ _ => decide (e.2.2.1 = 3)
  | .iastore => decide (e.2.2.1 = 1)
  | .pop => decide (e.2.2.1 = 1)
  | .imul => decide (e.2.2.1 = 1)
  | .isub => decide (e.2.2.1 = 1)
  | _ => zz_rstf own nm e
theorem zz_rsts {own nm : String} {e : zz_I} (h : zz_rstq own nm e = true) : zz_rst own nm e = true := by
  obtain ⟨pc, ins, len, r, v0⟩ := e
  unfold zz_rstq at h
  dsimp only at h
  split at h
  · have h := of_decide_eq_true h
    subst h
    rfl
  · have h := of_decide_eq_true h
    subst h
    rfl
  · have h := of_decide_eq_true h
    subst h
    rfl
  · have h := of_decide_eq_true h
    subst h
    rfl
  · have h := of_decide_eq_true h
    subst h
    rfl
  · have h := of_decide_eq_true h
    subst h
    rfl
  · have h := of_decide_eq_true h
    subst h
    rfl
  · have h := of_decide_eq_true h
    subst h
    rfl
  · have h := of_decide_eq_true h
    subst h
    rfl
  · have h := of_decide_eq_true h
    subst h
    rfl
  · have h := of_decide_eq_true h
    subst h
    rfl
  · have h := of_decide_eq_true h
    subst h
    rfl
  · have h := of_decide_eq_true h
    subst h
    rfl
  · have h := of_decide_eq_true h
    subst h
    rfl
  · have h := of_decide_eq_true h
    subst h
    rfl
  · have h := of_decide_eq_true h
    subst h
    rfl
  · have h := of_decide_eq_true h
    subst h
    rfl
  · have h := of_decide_eq_true h
    subst h
    rfl
  · rw [zz_rste]
    exact h
noncomputable def zz_wk (own nm : String) (b : ByteArray) : List zz_I → List UInt8 → Nat → Bool
  | [], _, _ => true
  | _ :: _, [], _ => false
  | e :: es, a :: r, p => (decide (e.1 = p) && decide (0 < e.2.2.1)) && ((match dI (a :: r) with
      | some x => zz_ieq x.1 e.2.1 && decide (x.2 = e.2.2.1)
      | none => decide (decode b p = .ok (e.2.1, e.2.2.1))) && (zz_rstq own nm e && zz_wk own nm b es (r.drop (e.2.2.1 - 1)) (p + e.2.2.1)))
theorem zz_wk_ok {own nm : String} {b : ByteArray} : ∀ (es : List zz_I) (l : List UInt8) (p : Nat), l = b.data.toList.drop p → zz_wk own nm b es l p = true → ∀ e ∈ es, zz_chk own nm b e = true
  | [], _, _, _, _, e, he => absurd he List.not_mem_nil
  | _ :: _, [], _, _, h, _, _ => by cases h
  | e :: es, a :: r, p, hl, h, e', he => by
    have h := (Bool.and_eq_true _ _).mp h
    obtain ⟨h1, h2⟩ := h
    have h1 := (Bool.and_eq_true _ _).mp h1
    have h2 := (Bool.and_eq_true _ _).mp h2
    obtain ⟨h3, h4⟩ := h2
    have h4 := (Bool.and_eq_true _ _).mp h4
    have q1 := of_decide_eq_true h1.1
    have q2 := of_decide_eq_true h1.2
    rcases List.mem_cons.mp he with he | he
    · subst he
      have hd : decode b p = .ok (e'.2.1, e'.2.2.1) := by
        rw [hl] at h3
        match q : dI (b.data.toList.drop p) with
        | some x =>
          rw [q] at h3
          have h3 : (zz_ieq x.1 e'.2.1 && decide (x.2 = e'.2.2.1)) = true := h3
          have k := (Bool.and_eq_true _ _).mp h3
          have k : x = (e'.2.1, e'.2.2.1) := Prod.ext (zz_ieq_ok k.1) (of_decide_eq_true k.2)
          rw [← k]
          exact dI_ok q
        | none =>
          rw [q] at h3
          exact of_decide_eq_true h3
      have h41 : zz_rst own nm e' = true := by
        exact zz_rsts h4.1
      obtain ⟨pc, ins, len, r0, v0⟩ := e'
      have q1 : pc = p := q1
      subst q1
      exact (Bool.and_eq_true _ _).mpr ⟨decide_eq_true hd, h41⟩
    · refine zz_wk_ok es _ _ ?_ h4.2 e' he
      rw [← List.drop_drop, ← hl, show e.2.2.1 = (e.2.2.1 - 1) + 1 by omega]
      rfl
noncomputable def zz_wc (own nm : String) (b : ByteArray) (ch : List zz_I) : Bool := match ch with
  | [] => true
  | e :: es => zz_wk own nm b (e :: es) (b.data.toList.drop e.1) e.1
theorem zz_clq {own nm : String} {b : ByteArray} {ls : List (List zz_I)} (h : ls.all (zz_wc own nm b) = true) : ls.all (fun ch => ch.all (zz_chk own nm b)) = true :=
  List.all_eq_true.mpr (fun ch hc => List.all_eq_true.mpr (fun e he => by
    have h := List.all_eq_true.mp h ch hc
    match ch, h, he with
    | [], _, he => exact absurd he List.not_mem_nil
    | e0 :: es, h, he => exact zz_wk_ok (e0 :: es) _ _ rfl h e he))
noncomputable def zz_cdkQ (mi : zz_Mi) : Bool := mi.2.2.2.2.2.2.2.2.all (zz_wc mi.1.cls mi.1.name mi.2.1)
theorem zz_cdq {mi : zz_Mi} (h : zz_cdkQ mi = true) : zz_cdk mi = true := zz_clq h
