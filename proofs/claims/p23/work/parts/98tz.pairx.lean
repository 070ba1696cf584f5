/-! the same with the invariant of its own -/
section PZ
variable {jc jm n : Nat}
theorem xk_ask (H : AK jc jm n) : XK jc jm n := by
  rintro as h h1 h2 v v2 hl hb ⟨G, W, C, M⟩ hx s1 s2
  obtain ⟨c1, x1⟩ := H.1 hl W C s1
  obtain ⟨m2, x2⟩ := H.2 hl W (M.xC x1) s2
  exact ((x2 270 0 (by decide)).trans (x1 270 0 (by decide))).trans hx
theorem px_personOf : PX 74 184 2 false := px_of pj_personOf (xk_ask ak_personOf)
theorem px_belief : PX 75 185 2 false := px_of pj_belief (xk_ask ak_belief)
theorem px_eventOf : PX 76 186 2 false := px_of pj_eventOf (xk_ask ak_eventOf)
theorem px_wagerOf : PX 77 187 2 false := px_of pj_wagerOf (xk_ask ak_wagerOf)
theorem px_personIn : PX 96 200 3 false := px_of pj_personIn (xk_ask ak_personIn)
theorem px_beliefIn : PX 98 201 3 false := px_of pj_beliefIn (xk_ask ak_beliefIn)
theorem px_wedIn : PX 102 203 1 false := px_of pj_wedIn (xk_ask ak_wedIn)
theorem px_wedWhen : PX 103 205 1 false := px_of pj_wedWhen (xk_ask ak_wedWhen)
theorem px_happens : PX 105 207 2 false := px_of pj_happens (xk_ask ak_happens)
theorem px_bet : PX 106 208 2 false := px_of pj_bet (xk_ask ak_bet)
theorem px_takers : PX 108 211 3 false := px_of pj_takers (xk_ask ak_takers)
theorem px_wooers : PX 109 212 1 false := px_of pj_wooers (xk_ask ak_wooers)
theorem px_fix : PX 118 219 1 false := px_of pj_fix (xk_ask ak_fix)
theorem px_preach : PX 119 220 1 false := px_of pj_preach (xk_ask ak_preach)
theorem px_fair : PX 121 221 1 false := px_of pj_fair (xk_ask ak_fair)
theorem px_hedge : PX 123 222 2 false := px_of pj_hedge (xk_ask ak_hedge)
theorem px_uponWhat : PX 130 225 2 false := px_of pj_uponWhat (xk_ask ak_uponWhat)
theorem px_whatKind : PX 132 228 2 false := px_of pj_whatKind (xk_ask ak_whatKind)
theorem px_two : PX 125 229 3 false := px_of pj_two (xk_ask ak_two)
theorem px_sure : PX 133 230 4 false := px_of pj_sure (xk_ask ak_sure)
theorem px_shares : PX 136 233 2 false := px_of pj_shares (xk_ask ak_shares)
theorem px_saddest : PX 138 234 1 false := px_of pj_saddest (xk_ask ak_saddest)
theorem px_wished : PX 142 239 1 false := px_of pj_wished (xk_ask ak_wished)
theorem px_mean : PX 135 240 2 false := px_of pj_mean (xk_ask ak_mean)
theorem px_scorn : PX 143 241 1 false := px_of pj_scorn (xk_ask ak_scorn)
theorem px_left : PX 144 242 1 false := px_of pj_left (xk_ask ak_left)
theorem px_hope : PX 101 246 3 false := px_of pj_hope (xk_ask ak_hope)
theorem px_lots : PX 137 250 3 false := px_of pj_lots (xk_ask ak_lots)
theorem px_count : PX 78 252 1 false := px_of pj_count (xk_ask ak_count)
theorem px_feed : PX 12 150 1 true := px_of pj_feed (by
  rintro as h h1 h2 v v2 hl hb ⟨G, W, C, M⟩ hx s1 s2
  obtain ⟨x0, rfl⟩ := as1 hl
  have a := cj_feed s1 C W
  have b := mj_feed s2 (M.xC a.2.2) W
  exact ((b.2.2 270 0 (by decide)).trans (a.2.2 270 0 (by decide))).trans hx)
theorem px_row : PX 127 247 1 true := px_of pj_row (by
  rintro as h h1 h2 v v2 hl hb ⟨G, W, C, M⟩ hx s1 s2
  obtain ⟨x0, rfl⟩ := as1 hl
  have a := cj_row s1 C W
  have b := mj_row s2 (M.xC a.2.2) W
  exact ((b.2.2 270 0 (by decide)).trans (a.2.2 270 0 (by decide))).trans hx)
theorem px_back : PX 92 183 0 true := px_of pj_back (by
  rintro as h h1 h2 v v2 hl hb ⟨G, W, C, M⟩ hx s1 s2
  have hl := as0 hl
  subst hl
  have a := cj_back s1 C W
  have b := mj_back s2 (M.xC a.2.2) W
  exact ((b.2.2 270 0 (by decide)).trans (a.2.2 270 0 (by decide))).trans hx)
theorem px_restore : PX 95 182 0 true := px_of pj_restore (by
  rintro as h h1 h2 v v2 hl hb ⟨G, W, C, M⟩ hx s1 s2
  have hl := as0 hl
  subst hl
  have a := cj_restore s1 C W
  have b := mj_restore s2 (M.xC a.2.2) W
  exact ((b.2.2 270 0 (by decide)).trans (a.2.2 270 0 (by decide))).trans hx)
theorem px_person : PX 84 188 2 true := px_of pj_person (by
  rintro as h h1 h2 v v2 hl hb ⟨G, W, C, M⟩ hx s1 s2
  obtain ⟨x0, x1, rfl⟩ := as2 hl
  have a := cj_person s1 C W
  have b := mj_person s2 (M.xC a.2.2) W
  exact ((b.2.2 270 0 (by decide)).trans (a.2.2 270 0 (by decide))).trans hx)
theorem px_wishes : PX 85 190 2 true := px_of pj_wishes (by
  rintro as h h1 h2 v v2 hl hb ⟨G, W, C, M⟩ hx s1 s2
  obtain ⟨x0, x1, rfl⟩ := as2 hl
  have a := cj_wishes s1 C W
  have b := mj_wishes s2 (M.xC a.2.2) W
  exact ((b.2.2 270 0 (by decide)).trans (a.2.2 270 0 (by decide))).trans hx)
theorem px_believes : PX 86 191 3 true := px_of pj_believes (by
  rintro as h h1 h2 v v2 hl hb ⟨G, W, C, M⟩ hx s1 s2
  obtain ⟨x0, x1, x2, rfl⟩ := as3 hl
  have a := cj_believes s1 C W
  have b := mj_believes s2 (M.xC a.2.2) W
  exact ((b.2.2 270 0 (by decide)).trans (a.2.2 270 0 (by decide))).trans hx)
theorem px_fixes : PX 88 193 3 true := px_of pj_fixes (by
  rintro as h h1 h2 v v2 hl hb ⟨G, W, C, M⟩ hx s1 s2
  obtain ⟨x0, x1, x2, rfl⟩ := as3 hl
  have a := cj_fixes s1 C W
  have b := mj_fixes s2 (M.xC a.2.2) W
  exact ((b.2.2 270 0 (by decide)).trans (a.2.2 270 0 (by decide))).trans hx)
theorem px_days : PX 90 197 1 false := px_of pj_days (by
  rintro as h h1 h2 v v2 hl hb ⟨G, W, C, M⟩ hx s1 s2
  obtain ⟨x0, rfl⟩ := as1 hl
  have a := cj_days s1 C W
  have b := mj_days s2 (M.xC a.2.2) W
  exact ((b.2.2 270 0 (by decide)).trans (a.2.2 270 0 (by decide))).trans hx)
theorem px_proposes : PX 89 194 5 true := px_of pj_proposes (by
  rintro as h h1 h2 v v2 hl hb ⟨G, W, C, M⟩ hx s1 s2
  obtain ⟨x0, x1, x2, x3, x4, rfl⟩ := as5 hl
  have a := cj_proposes s1 C W
  have b := mj_proposes s2 (M.xC a.2.2) W
  exact ((b.2.2 270 0 (by decide)).trans (a.2.2 270 0 (by decide))).trans hx)
theorem px_clear : PX 128 249 0 true := px_of pj_clear (by
  rintro as h h1 h2 v v2 hl hb ⟨G, W, C, M⟩ hx s1 s2
  have hl := as0 hl
  subst hl
  have a := cj_clear s1 C W
  have b := mj_clear s2 (M.xC a.2.2)
  exact ((b.2.2 270 0 (by decide)).trans (a.2.2 270 0 (by decide))).trans hx)
theorem px_image : PX 94 181 0 true := px_of pj_image (by
  rintro as h h1 h2 v v2 hl hb ⟨G, W, C, M⟩ hx s1 s2
  have hl := as0 hl
  subst hl
  have a := cj_image s1 C W
  have b := mj_image s2 (M.xC a.2.2)
  exact ((b.2.2 270 0 (by decide)).trans (a.2.2 270 0 (by decide))).trans hx)
theorem px_judge : PX 129 248 0 true := px_of pj_judge (by
  rintro as h h1 h2 v v2 hl hb ⟨G, W, C, M⟩ hx s1 s2
  have hl := as0 hl
  subst hl
  have a := cj_judge s1 C W
  have b := mj_judge s2 (M.xC a.2.2) W
  exact ((b.2.2 270 0 (by decide)).trans (a.2.2 270 0 (by decide))).trans hx)
theorem px_town : PX 16 152 0 true := px_of pj_town (by
  rintro as h h1 h2 v v2 hl hb ⟨G, W, C, M⟩ hx s1 s2
  have hl := as0 hl
  subst hl
  obtain ⟨G1, a1, a2, a3⟩ := cj_town s1 C W
  obtain ⟨G2, b1, b2, b3⟩ := mj_town s2 (M.xC a3) W
  exact ((b3 270 0 (by decide)).trans (a3 270 0 (by decide))).trans hx)
theorem px_match : PX 111 214 1 true := by
  rintro as h h1 h2 v v2 hl hb ⟨⟨G, W, C, M⟩, hx⟩ s1 s2
  obtain ⟨c1, x1⟩ := cj_ask7 (fun _ => fc1_vc_match) (show xR (some 1 :: List.replicate 1 none) (1 :: as) from ⟨rfl, xR_n hl⟩) s1 C W
  obtain ⟨m2, x2⟩ := mj_ask (fun g h0 => SQ_lt 0 (fun _ => fp_vr_match)) (by omega) (show xR (some 271 :: List.replicate 1 none) (271 :: as) from ⟨rfl, xR_n hl⟩) s2 (M.xC0 x1)
  obtain ⟨x, rfl⟩ := as1 hl
  obtain ⟨r1, r2⟩ := ca_match s1 C W hx
  have r3 := ra_match s2 (M.xC0 x1) W (hb x List.mem_cons_self)
  exact ⟨⟨⟨G, W, c1.xM W x2, m2⟩, (x2 270 0 (by decide)).trans r2⟩, fun _ => ma_un W.1.1.1.1 r1 r3⟩
end PZ
