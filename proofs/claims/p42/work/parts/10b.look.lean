/-! the tables' words by their places, quickly: the table cut at every 64th -/
noncomputable section
noncomputable def zz_ndr (l : List Jvm.Cond) : Nat → List Jvm.Cond := List.rec (motive := fun _ => Nat → List Jvm.Cond) (fun _ => []) (fun a t ih i => Nat.rec (motive := fun _ => List Jvm.Cond) (a :: t) (fun j _ => ih j) i) l
noncomputable def zz_pth {α : Type} (l : List α) : Nat → Option α := List.rec (motive := fun _ => Nat → Option α) (fun _ => none) (fun a _ ih i => Nat.rec (motive := fun _ => Option α) (some a) (fun j _ => ih j) i) l
theorem zz_ndr_eq : ∀ (l : List Jvm.Cond) (n : Nat), zz_ndr l n = l.drop n
  | [], n => by
    rw [List.drop_nil]
    rfl
  | _ :: _, 0 => rfl
  | _ :: l, n + 1 => zz_ndr_eq l n
theorem zz_pth_eq {α : Type} : ∀ (l : List α) (n : Nat), zz_pth l n = l[n]?
  | [], n => by
    rw [List.getElem?_nil]
    rfl
  | _ :: _, 0 => rfl
  | a :: l, n + 1 => by
    rw [List.getElem?_cons_succ]
    exact zz_pth_eq l n
noncomputable def zz_c0 : List Jvm.Cond := lw_tbl
theorem zz_e0 : zz_c0 = lw_tbl.drop 0 := rfl
noncomputable def zz_c1 : List Jvm.Cond := zz_ndr zz_c0 64
theorem zz_e1 : zz_c1 = lw_tbl.drop 64 := (zz_ndr_eq _ _).trans (by rw [zz_e0, List.drop_drop])
noncomputable def zz_c2 : List Jvm.Cond := zz_ndr zz_c1 64
theorem zz_e2 : zz_c2 = lw_tbl.drop 128 := (zz_ndr_eq _ _).trans (by rw [zz_e1, List.drop_drop])
noncomputable def zz_c3 : List Jvm.Cond := zz_ndr zz_c2 64
theorem zz_e3 : zz_c3 = lw_tbl.drop 192 := (zz_ndr_eq _ _).trans (by rw [zz_e2, List.drop_drop])
noncomputable def zz_c4 : List Jvm.Cond := zz_ndr zz_c3 64
theorem zz_e4 : zz_c4 = lw_tbl.drop 256 := (zz_ndr_eq _ _).trans (by rw [zz_e3, List.drop_drop])
noncomputable def zz_c5 : List Jvm.Cond := zz_ndr zz_c4 64
theorem zz_e5 : zz_c5 = lw_tbl.drop 320 := (zz_ndr_eq _ _).trans (by rw [zz_e4, List.drop_drop])
noncomputable def zz_c6 : List Jvm.Cond := zz_ndr zz_c5 64
theorem zz_e6 : zz_c6 = lw_tbl.drop 384 := (zz_ndr_eq _ _).trans (by rw [zz_e5, List.drop_drop])
noncomputable def zz_c7 : List Jvm.Cond := zz_ndr zz_c6 64
theorem zz_e7 : zz_c7 = lw_tbl.drop 448 := (zz_ndr_eq _ _).trans (by rw [zz_e6, List.drop_drop])
noncomputable def zz_c8 : List Jvm.Cond := zz_ndr zz_c7 64
theorem zz_e8 : zz_c8 = lw_tbl.drop 512 := (zz_ndr_eq _ _).trans (by rw [zz_e7, List.drop_drop])
noncomputable def zz_c9 : List Jvm.Cond := zz_ndr zz_c8 64
theorem zz_e9 : zz_c9 = lw_tbl.drop 576 := (zz_ndr_eq _ _).trans (by rw [zz_e8, List.drop_drop])
noncomputable def zz_c10 : List Jvm.Cond := zz_ndr zz_c9 64
theorem zz_e10 : zz_c10 = lw_tbl.drop 640 := (zz_ndr_eq _ _).trans (by rw [zz_e9, List.drop_drop])
noncomputable def zz_c11 : List Jvm.Cond := zz_ndr zz_c10 64
theorem zz_e11 : zz_c11 = lw_tbl.drop 704 := (zz_ndr_eq _ _).trans (by rw [zz_e10, List.drop_drop])
noncomputable def zz_c12 : List Jvm.Cond := zz_ndr zz_c11 64
theorem zz_e12 : zz_c12 = lw_tbl.drop 768 := (zz_ndr_eq _ _).trans (by rw [zz_e11, List.drop_drop])
noncomputable def zz_c13 : List Jvm.Cond := zz_ndr zz_c12 64
theorem zz_e13 : zz_c13 = lw_tbl.drop 832 := (zz_ndr_eq _ _).trans (by rw [zz_e12, List.drop_drop])
noncomputable def zz_c14 : List Jvm.Cond := zz_ndr zz_c13 64
theorem zz_e14 : zz_c14 = lw_tbl.drop 896 := (zz_ndr_eq _ _).trans (by rw [zz_e13, List.drop_drop])
noncomputable def zz_c15 : List Jvm.Cond := zz_ndr zz_c14 64
theorem zz_e15 : zz_c15 = lw_tbl.drop 960 := (zz_ndr_eq _ _).trans (by rw [zz_e14, List.drop_drop])
noncomputable def zz_c16 : List Jvm.Cond := zz_ndr zz_c15 64
theorem zz_e16 : zz_c16 = lw_tbl.drop 1024 := (zz_ndr_eq _ _).trans (by rw [zz_e15, List.drop_drop])
noncomputable def zz_c17 : List Jvm.Cond := zz_ndr zz_c16 64
theorem zz_e17 : zz_c17 = lw_tbl.drop 1088 := (zz_ndr_eq _ _).trans (by rw [zz_e16, List.drop_drop])
noncomputable def zz_c18 : List Jvm.Cond := zz_ndr zz_c17 64
theorem zz_e18 : zz_c18 = lw_tbl.drop 1152 := (zz_ndr_eq _ _).trans (by rw [zz_e17, List.drop_drop])
noncomputable def zz_c19 : List Jvm.Cond := zz_ndr zz_c18 64
theorem zz_e19 : zz_c19 = lw_tbl.drop 1216 := (zz_ndr_eq _ _).trans (by rw [zz_e18, List.drop_drop])
noncomputable def zz_c20 : List Jvm.Cond := zz_ndr zz_c19 64
theorem zz_e20 : zz_c20 = lw_tbl.drop 1280 := (zz_ndr_eq _ _).trans (by rw [zz_e19, List.drop_drop])
noncomputable def zz_c21 : List Jvm.Cond := zz_ndr zz_c20 64
theorem zz_e21 : zz_c21 = lw_tbl.drop 1344 := (zz_ndr_eq _ _).trans (by rw [zz_e20, List.drop_drop])
noncomputable def zz_c22 : List Jvm.Cond := zz_ndr zz_c21 64
theorem zz_e22 : zz_c22 = lw_tbl.drop 1408 := (zz_ndr_eq _ _).trans (by rw [zz_e21, List.drop_drop])
noncomputable def zz_c23 : List Jvm.Cond := zz_ndr zz_c22 64
theorem zz_e23 : zz_c23 = lw_tbl.drop 1472 := (zz_ndr_eq _ _).trans (by rw [zz_e22, List.drop_drop])
noncomputable def zz_c24 : List Jvm.Cond := zz_ndr zz_c23 64
theorem zz_e24 : zz_c24 = lw_tbl.drop 1536 := (zz_ndr_eq _ _).trans (by rw [zz_e23, List.drop_drop])
noncomputable def zz_c25 : List Jvm.Cond := zz_ndr zz_c24 64
theorem zz_e25 : zz_c25 = lw_tbl.drop 1600 := (zz_ndr_eq _ _).trans (by rw [zz_e24, List.drop_drop])
noncomputable def zz_c26 : List Jvm.Cond := zz_ndr zz_c25 64
theorem zz_e26 : zz_c26 = lw_tbl.drop 1664 := (zz_ndr_eq _ _).trans (by rw [zz_e25, List.drop_drop])
noncomputable def zz_c27 : List Jvm.Cond := zz_ndr zz_c26 64
theorem zz_e27 : zz_c27 = lw_tbl.drop 1728 := (zz_ndr_eq _ _).trans (by rw [zz_e26, List.drop_drop])
noncomputable def zz_c28 : List Jvm.Cond := zz_ndr zz_c27 64
theorem zz_e28 : zz_c28 = lw_tbl.drop 1792 := (zz_ndr_eq _ _).trans (by rw [zz_e27, List.drop_drop])
noncomputable def zz_c29 : List Jvm.Cond := zz_ndr zz_c28 64
theorem zz_e29 : zz_c29 = lw_tbl.drop 1856 := (zz_ndr_eq _ _).trans (by rw [zz_e28, List.drop_drop])
noncomputable def zz_c30 : List Jvm.Cond := zz_ndr zz_c29 64
theorem zz_e30 : zz_c30 = lw_tbl.drop 1920 := (zz_ndr_eq _ _).trans (by rw [zz_e29, List.drop_drop])
noncomputable def zz_c31 : List Jvm.Cond := zz_ndr zz_c30 64
theorem zz_e31 : zz_c31 = lw_tbl.drop 1984 := (zz_ndr_eq _ _).trans (by rw [zz_e30, List.drop_drop])
noncomputable def zz_c32 : List Jvm.Cond := zz_ndr zz_c31 64
theorem zz_e32 : zz_c32 = lw_tbl.drop 2048 := (zz_ndr_eq _ _).trans (by rw [zz_e31, List.drop_drop])
noncomputable def zz_c33 : List Jvm.Cond := zz_ndr zz_c32 64
theorem zz_e33 : zz_c33 = lw_tbl.drop 2112 := (zz_ndr_eq _ _).trans (by rw [zz_e32, List.drop_drop])
noncomputable def zz_c34 : List Jvm.Cond := zz_ndr zz_c33 64
theorem zz_e34 : zz_c34 = lw_tbl.drop 2176 := (zz_ndr_eq _ _).trans (by rw [zz_e33, List.drop_drop])
noncomputable def zz_c35 : List Jvm.Cond := zz_ndr zz_c34 64
theorem zz_e35 : zz_c35 = lw_tbl.drop 2240 := (zz_ndr_eq _ _).trans (by rw [zz_e34, List.drop_drop])
noncomputable def zz_c36 : List Jvm.Cond := zz_ndr zz_c35 64
theorem zz_e36 : zz_c36 = lw_tbl.drop 2304 := (zz_ndr_eq _ _).trans (by rw [zz_e35, List.drop_drop])
noncomputable def zz_c37 : List Jvm.Cond := zz_ndr zz_c36 64
theorem zz_e37 : zz_c37 = lw_tbl.drop 2368 := (zz_ndr_eq _ _).trans (by rw [zz_e36, List.drop_drop])
noncomputable def zz_c38 : List Jvm.Cond := zz_ndr zz_c37 64
theorem zz_e38 : zz_c38 = lw_tbl.drop 2432 := (zz_ndr_eq _ _).trans (by rw [zz_e37, List.drop_drop])
noncomputable def zz_c39 : List Jvm.Cond := zz_ndr zz_c38 64
theorem zz_e39 : zz_c39 = lw_tbl.drop 2496 := (zz_ndr_eq _ _).trans (by rw [zz_e38, List.drop_drop])
noncomputable def zz_ch : List (List Jvm.Cond) := [zz_c0, zz_c1, zz_c2, zz_c3, zz_c4, zz_c5, zz_c6, zz_c7, zz_c8, zz_c9, zz_c10, zz_c11, zz_c12, zz_c13, zz_c14, zz_c15, zz_c16, zz_c17, zz_c18, zz_c19, zz_c20, zz_c21, zz_c22, zz_c23, zz_c24, zz_c25, zz_c26, zz_c27, zz_c28, zz_c29, zz_c30, zz_c31, zz_c32, zz_c33, zz_c34, zz_c35, zz_c36, zz_c37, zz_c38, zz_c39]
theorem zz_ch_ok : ∀ (j : Nat) (l : List Jvm.Cond), zz_ch[j]? = some l → l = lw_tbl.drop (64 * j)
  | 0, l, h => (Option.some.inj h).symm.trans zz_e0
  | 1, l, h => (Option.some.inj h).symm.trans zz_e1
  | 2, l, h => (Option.some.inj h).symm.trans zz_e2
  | 3, l, h => (Option.some.inj h).symm.trans zz_e3
  | 4, l, h => (Option.some.inj h).symm.trans zz_e4
  | 5, l, h => (Option.some.inj h).symm.trans zz_e5
  | 6, l, h => (Option.some.inj h).symm.trans zz_e6
  | 7, l, h => (Option.some.inj h).symm.trans zz_e7
  | 8, l, h => (Option.some.inj h).symm.trans zz_e8
  | 9, l, h => (Option.some.inj h).symm.trans zz_e9
  | 10, l, h => (Option.some.inj h).symm.trans zz_e10
  | 11, l, h => (Option.some.inj h).symm.trans zz_e11
  | 12, l, h => (Option.some.inj h).symm.trans zz_e12
  | 13, l, h => (Option.some.inj h).symm.trans zz_e13
  | 14, l, h => (Option.some.inj h).symm.trans zz_e14
  | 15, l, h => (Option.some.inj h).symm.trans zz_e15
  | 16, l, h => (Option.some.inj h).symm.trans zz_e16
  | 17, l, h => (Option.some.inj h).symm.trans zz_e17
  | 18, l, h => (Option.some.inj h).symm.trans zz_e18
  | 19, l, h => (Option.some.inj h).symm.trans zz_e19
  | 20, l, h => (Option.some.inj h).symm.trans zz_e20
  | 21, l, h => (Option.some.inj h).symm.trans zz_e21
  | 22, l, h => (Option.some.inj h).symm.trans zz_e22
  | 23, l, h => (Option.some.inj h).symm.trans zz_e23
  | 24, l, h => (Option.some.inj h).symm.trans zz_e24
  | 25, l, h => (Option.some.inj h).symm.trans zz_e25
  | 26, l, h => (Option.some.inj h).symm.trans zz_e26
  | 27, l, h => (Option.some.inj h).symm.trans zz_e27
  | 28, l, h => (Option.some.inj h).symm.trans zz_e28
  | 29, l, h => (Option.some.inj h).symm.trans zz_e29
  | 30, l, h => (Option.some.inj h).symm.trans zz_e30
  | 31, l, h => (Option.some.inj h).symm.trans zz_e31
  | 32, l, h => (Option.some.inj h).symm.trans zz_e32
  | 33, l, h => (Option.some.inj h).symm.trans zz_e33
  | 34, l, h => (Option.some.inj h).symm.trans zz_e34
  | 35, l, h => (Option.some.inj h).symm.trans zz_e35
  | 36, l, h => (Option.some.inj h).symm.trans zz_e36
  | 37, l, h => (Option.some.inj h).symm.trans zz_e37
  | 38, l, h => (Option.some.inj h).symm.trans zz_e38
  | 39, l, h => (Option.some.inj h).symm.trans zz_e39
  | n + 40, l, h => by cases h
noncomputable def zz_look (i : Nat) : Option Jvm.Cond := match zz_pth zz_ch (i / 64) with
  | some l => zz_pth l (i % 64)
  | none => none
theorem zz_look_ok {i : Nat} {v : Jvm.Cond} (h : zz_look i = some v) : lw_tbl[i]? = some v := by
  unfold zz_look at h
  split at h
  · rename_i l hl
    rw [zz_pth_eq] at h hl
    rw [zz_ch_ok _ _ hl, List.getElem?_drop, Nat.div_add_mod] at h
    exact h
  · cases h
end
