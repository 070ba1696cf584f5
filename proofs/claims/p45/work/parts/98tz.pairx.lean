/-! the same with the invariant of its own: the refusals -/
section PZ
variable {h h1 h2 : fH} {n : Int}
theorem xx_of (a : rc 3 h h1 n) (b : rc 285 h1 h2 n) (f : xC h h1) (g : xM h1 h2) (hx : XX h) : XX h2 := fun k k1 k2 => by
  rw [g 3 k (by decide), a k k1 k2, b k k1 k2, f 285 k (by decide), hx k k1 k2]
theorem xk_personOf : XK 74 184 2 := by
  rintro as h h1 h2 v v2 hl hb ⟨G, W, C, M⟩ hx s1 s2
  obtain ⟨x, y, rfl⟩ := as2 hl
  have f := (ak_personOf.1 hl W C s1).2
  have g := (ak_personOf.2 hl W (M.xC f) s2).2
  exact xx_of (kc_personOf s1 C W) (km_personOf s2 (M.xC f) W) f g hx
theorem px_personOf : PX 74 184 2 false := px_of pj_personOf xk_personOf
theorem xk_belief : XK 75 185 2 := by
  rintro as h h1 h2 v v2 hl hb ⟨G, W, C, M⟩ hx s1 s2
  obtain ⟨x, y, rfl⟩ := as2 hl
  have f := (ak_belief.1 hl W C s1).2
  have g := (ak_belief.2 hl W (M.xC f) s2).2
  exact xx_of (kc_belief s1 C W) (km_belief s2 (M.xC f) W) f g hx
theorem px_belief : PX 75 185 2 false := px_of pj_belief xk_belief
theorem xk_eventOf : XK 76 186 2 := by
  rintro as h h1 h2 v v2 hl hb ⟨G, W, C, M⟩ hx s1 s2
  obtain ⟨x, y, rfl⟩ := as2 hl
  have f := (ak_eventOf.1 hl W C s1).2
  have g := (ak_eventOf.2 hl W (M.xC f) s2).2
  exact xx_of (kc_eventOf s1 C W) (km_eventOf s2 (M.xC f) W) f g hx
theorem px_eventOf : PX 76 186 2 false := px_of pj_eventOf xk_eventOf
theorem xk_wagerOf : XK 77 187 2 := by
  rintro as h h1 h2 v v2 hl hb ⟨G, W, C, M⟩ hx s1 s2
  obtain ⟨x, y, rfl⟩ := as2 hl
  have f := (ak_wagerOf.1 hl W C s1).2
  have g := (ak_wagerOf.2 hl W (M.xC f) s2).2
  exact xx_of (kc_wagerOf s1 C W) (km_wagerOf s2 (M.xC f) W) f g hx
theorem px_wagerOf : PX 77 187 2 false := px_of pj_wagerOf xk_wagerOf
theorem xk_personIn : XK 96 200 3 := by
  rintro as h h1 h2 v v2 hl hb ⟨G, W, C, M⟩ hx s1 s2
  obtain ⟨x, y, z, rfl⟩ := as3 hl
  have f := (ak_personIn.1 hl W C s1).2
  have g := (ak_personIn.2 hl W (M.xC f) s2).2
  exact xx_of (kc_personIn s1 C W) (km_personIn s2 (M.xC f) W) f g hx
theorem px_personIn : PX 96 200 3 false := px_of pj_personIn xk_personIn
theorem xk_beliefIn : XK 98 201 3 := by
  rintro as h h1 h2 v v2 hl hb ⟨G, W, C, M⟩ hx s1 s2
  obtain ⟨x, y, z, rfl⟩ := as3 hl
  have f := (ak_beliefIn.1 hl W C s1).2
  have g := (ak_beliefIn.2 hl W (M.xC f) s2).2
  exact xx_of (kc_beliefIn s1 C W) (km_beliefIn s2 (M.xC f) W) f g hx
theorem px_beliefIn : PX 98 201 3 false := px_of pj_beliefIn xk_beliefIn
theorem xk_wedIn : XK 102 203 1 := by
  rintro as h h1 h2 v v2 hl hb ⟨G, W, C, M⟩ hx s1 s2
  obtain ⟨x, rfl⟩ := as1 hl
  have f := (ak_wedIn.1 hl W C s1).2
  have g := (ak_wedIn.2 hl W (M.xC f) s2).2
  exact xx_of (kc_wedIn s1 C W) (km_wedIn s2 (M.xC f) W) f g hx
theorem px_wedIn : PX 102 203 1 false := px_of pj_wedIn xk_wedIn
theorem xk_wedWhen : XK 103 205 1 := by
  rintro as h h1 h2 v v2 hl hb ⟨G, W, C, M⟩ hx s1 s2
  obtain ⟨x, rfl⟩ := as1 hl
  have f := (ak_wedWhen.1 hl W C s1).2
  have g := (ak_wedWhen.2 hl W (M.xC f) s2).2
  exact xx_of (kc_wedWhen s1 C W) (km_wedWhen s2 (M.xC f) W) f g hx
theorem px_wedWhen : PX 103 205 1 false := px_of pj_wedWhen xk_wedWhen
theorem xk_happens : XK 105 207 2 := by
  rintro as h h1 h2 v v2 hl hb ⟨G, W, C, M⟩ hx s1 s2
  obtain ⟨x, y, rfl⟩ := as2 hl
  have f := (ak_happens.1 hl W C s1).2
  have g := (ak_happens.2 hl W (M.xC f) s2).2
  exact xx_of (kc_happens s1 C W) (km_happens s2 (M.xC f) W) f g hx
theorem px_happens : PX 105 207 2 false := px_of pj_happens xk_happens
theorem xk_bet : XK 106 208 2 := by
  rintro as h h1 h2 v v2 hl hb ⟨G, W, C, M⟩ hx s1 s2
  obtain ⟨x, y, rfl⟩ := as2 hl
  have f := (ak_bet.1 hl W C s1).2
  have g := (ak_bet.2 hl W (M.xC f) s2).2
  exact xx_of (kc_bet s1 C W) (km_bet s2 (M.xC f) W) f g hx
theorem px_bet : PX 106 208 2 false := px_of pj_bet xk_bet
theorem xk_takers : XK 108 211 3 := by
  rintro as h h1 h2 v v2 hl hb ⟨G, W, C, M⟩ hx s1 s2
  obtain ⟨x, y, z, rfl⟩ := as3 hl
  have f := (ak_takers.1 hl W C s1).2
  have g := (ak_takers.2 hl W (M.xC f) s2).2
  exact xx_of (kc_takers s1 C W) (km_takers s2 (M.xC f) W) f g hx
theorem px_takers : PX 108 211 3 false := px_of pj_takers xk_takers
theorem xk_wooers : XK 109 212 1 := by
  rintro as h h1 h2 v v2 hl hb ⟨G, W, C, M⟩ hx s1 s2
  obtain ⟨x, rfl⟩ := as1 hl
  have f := (ak_wooers.1 hl W C s1).2
  have g := (ak_wooers.2 hl W (M.xC f) s2).2
  exact xx_of (kc_wooers s1 C W) (km_wooers s2 (M.xC f) W) f g hx
theorem px_wooers : PX 109 212 1 false := px_of pj_wooers xk_wooers
theorem xk_match : XK 111 214 1 := by
  rintro as h h1 h2 v v2 hl hb ⟨G, W, C, M⟩ hx s1 s2
  obtain ⟨x, rfl⟩ := as1 hl
  have f := (ak_match.1 hl W C s1).2
  have g := (ak_match.2 hl W (M.xC f) s2).2
  exact xx_of (kc_match s1 C W) (km_match s2 (M.xC f) W) f g hx
theorem px_match : PX 111 214 1 false := px_of pj_match xk_match
theorem xk_fix : XK 118 219 1 := by
  rintro as h h1 h2 v v2 hl hb ⟨G, W, C, M⟩ hx s1 s2
  obtain ⟨x, rfl⟩ := as1 hl
  have f := (ak_fix.1 hl W C s1).2
  have g := (ak_fix.2 hl W (M.xC f) s2).2
  exact xx_of (kc_fix s1 C W) (km_fix s2 (M.xC f) W) f g hx
theorem px_fix : PX 118 219 1 false := px_of pj_fix xk_fix
theorem xk_preach : XK 119 220 1 := by
  rintro as h h1 h2 v v2 hl hb ⟨G, W, C, M⟩ hx s1 s2
  obtain ⟨x, rfl⟩ := as1 hl
  have f := (ak_preach.1 hl W C s1).2
  have g := (ak_preach.2 hl W (M.xC f) s2).2
  exact xx_of (kc_preach s1 C W) (km_preach s2 (M.xC f) W) f g hx
theorem px_preach : PX 119 220 1 false := px_of pj_preach xk_preach
theorem xk_fair : XK 121 221 1 := by
  rintro as h h1 h2 v v2 hl hb ⟨G, W, C, M⟩ hx s1 s2
  obtain ⟨x, rfl⟩ := as1 hl
  have f := (ak_fair.1 hl W C s1).2
  have g := (ak_fair.2 hl W (M.xC f) s2).2
  exact xx_of (kc_fair s1 C W) (km_fair s2 (M.xC f) W) f g hx
theorem px_fair : PX 121 221 1 false := px_of pj_fair xk_fair
theorem xk_hedge : XK 123 222 2 := by
  rintro as h h1 h2 v v2 hl hb ⟨G, W, C, M⟩ hx s1 s2
  obtain ⟨x, y, rfl⟩ := as2 hl
  have f := (ak_hedge.1 hl W C s1).2
  have g := (ak_hedge.2 hl W (M.xC f) s2).2
  exact xx_of (kc_hedge s1 C W) (km_hedge s2 (M.xC f) W) f g hx
theorem px_hedge : PX 123 222 2 false := px_of pj_hedge xk_hedge
theorem xk_uponWhat : XK 130 225 2 := by
  rintro as h h1 h2 v v2 hl hb ⟨G, W, C, M⟩ hx s1 s2
  obtain ⟨x, y, rfl⟩ := as2 hl
  have f := (ak_uponWhat.1 hl W C s1).2
  have g := (ak_uponWhat.2 hl W (M.xC f) s2).2
  exact xx_of (kc_uponWhat s1 C W) (km_uponWhat s2 (M.xC f) W) f g hx
theorem px_uponWhat : PX 130 225 2 false := px_of pj_uponWhat xk_uponWhat
theorem xk_whatKind : XK 132 228 2 := by
  rintro as h h1 h2 v v2 hl hb ⟨G, W, C, M⟩ hx s1 s2
  obtain ⟨x, y, rfl⟩ := as2 hl
  have f := (ak_whatKind.1 hl W C s1).2
  have g := (ak_whatKind.2 hl W (M.xC f) s2).2
  exact xx_of (kc_whatKind s1 C W) (km_whatKind s2 (M.xC f) W) f g hx
theorem px_whatKind : PX 132 228 2 false := px_of pj_whatKind xk_whatKind
theorem xk_two : XK 125 229 3 := by
  rintro as h h1 h2 v v2 hl hb ⟨G, W, C, M⟩ hx s1 s2
  obtain ⟨x, y, z, rfl⟩ := as3 hl
  have f := (ak_two.1 hl W C s1).2
  have g := (ak_two.2 hl W (M.xC f) s2).2
  obtain ⟨n1, p1, a⟩ := kc_two s1 C W
  obtain ⟨n2, p2, b⟩ := km_two s2 (M.xC f) W
  have e := twN.un p1 p2
  subst e
  exact xx_of a b f g hx
theorem px_two : PX 125 229 3 false := px_of pj_two xk_two
theorem xk_sure : XK 133 230 4 := by
  rintro as h h1 h2 v v2 hl hb ⟨G, W, C, M⟩ hx s1 s2
  obtain ⟨x, y, z, w, rfl⟩ := as4 hl
  have f := (ak_sure.1 hl W C s1).2
  have g := (ak_sure.2 hl W (M.xC f) s2).2
  exact xx_of (kc_sure s1 C W) (km_sure s2 (M.xC f) W) f g hx
theorem px_sure : PX 133 230 4 false := px_of pj_sure xk_sure
theorem xk_shares : XK 136 233 2 := by
  rintro as h h1 h2 v v2 hl hb ⟨G, W, C, M⟩ hx s1 s2
  obtain ⟨x, y, rfl⟩ := as2 hl
  have f := (ak_shares.1 hl W C s1).2
  have g := (ak_shares.2 hl W (M.xC f) s2).2
  exact xx_of (kc_shares s1 C W) (km_shares s2 (M.xC f) W) f g hx
theorem px_shares : PX 136 233 2 false := px_of pj_shares xk_shares
theorem xk_saddest : XK 138 234 1 := by
  rintro as h h1 h2 v v2 hl hb ⟨G, W, C, M⟩ hx s1 s2
  obtain ⟨x, rfl⟩ := as1 hl
  have f := (ak_saddest.1 hl W C s1).2
  have g := (ak_saddest.2 hl W (M.xC f) s2).2
  exact xx_of (kc_saddest s1 C W) (km_saddest s2 (M.xC f) W) f g hx
theorem px_saddest : PX 138 234 1 false := px_of pj_saddest xk_saddest
theorem xk_wished : XK 142 239 1 := by
  rintro as h h1 h2 v v2 hl hb ⟨G, W, C, M⟩ hx s1 s2
  obtain ⟨x, rfl⟩ := as1 hl
  have f := (ak_wished.1 hl W C s1).2
  have g := (ak_wished.2 hl W (M.xC f) s2).2
  exact xx_of (kc_wished s1 C W) (km_wished s2 (M.xC f) W) f g hx
theorem px_wished : PX 142 239 1 false := px_of pj_wished xk_wished
theorem xk_mean : XK 135 240 2 := by
  rintro as h h1 h2 v v2 hl hb ⟨G, W, C, M⟩ hx s1 s2
  obtain ⟨x, y, rfl⟩ := as2 hl
  have f := (ak_mean.1 hl W C s1).2
  have g := (ak_mean.2 hl W (M.xC f) s2).2
  exact xx_of (kc_mean s1 C W) (km_mean s2 (M.xC f) W) f g hx
theorem px_mean : PX 135 240 2 false := px_of pj_mean xk_mean
theorem xk_scorn : XK 143 241 1 := by
  rintro as h h1 h2 v v2 hl hb ⟨G, W, C, M⟩ hx s1 s2
  obtain ⟨x, rfl⟩ := as1 hl
  have f := (ak_scorn.1 hl W C s1).2
  have g := (ak_scorn.2 hl W (M.xC f) s2).2
  exact xx_of (kc_scorn s1 C W) (km_scorn s2 (M.xC f) W) f g hx
theorem px_scorn : PX 143 241 1 false := px_of pj_scorn xk_scorn
theorem xk_left : XK 144 242 1 := by
  rintro as h h1 h2 v v2 hl hb ⟨G, W, C, M⟩ hx s1 s2
  obtain ⟨x, rfl⟩ := as1 hl
  have f := (ak_left.1 hl W C s1).2
  have g := (ak_left.2 hl W (M.xC f) s2).2
  exact xx_of (kc_left s1 C W) (km_left s2 (M.xC f) W) f g hx
theorem px_left : PX 144 242 1 false := px_of pj_left xk_left
theorem xk_hope : XK 101 246 3 := by
  rintro as h h1 h2 v v2 hl hb ⟨G, W, C, M⟩ hx s1 s2
  obtain ⟨x, y, z, rfl⟩ := as3 hl
  have f := (ak_hope.1 hl W C s1).2
  have g := (ak_hope.2 hl W (M.xC f) s2).2
  exact xx_of (kc_hope s1 C W) (km_hope s2 (M.xC f) W) f g hx
theorem px_hope : PX 101 246 3 false := px_of pj_hope xk_hope
theorem xk_lots : XK 137 250 3 := by
  rintro as h h1 h2 v v2 hl hb ⟨G, W, C, M⟩ hx s1 s2
  obtain ⟨x, y, z, rfl⟩ := as3 hl
  have f := (ak_lots.1 hl W C s1).2
  have g := (ak_lots.2 hl W (M.xC f) s2).2
  exact xx_of (kc_lots s1 C W) (km_lots s2 (M.xC f) W) f g hx
theorem px_lots : PX 137 250 3 false := px_of pj_lots xk_lots
theorem xk_count : XK 78 252 1 := by
  rintro as h h1 h2 v v2 hl hb ⟨G, W, C, M⟩ hx s1 s2
  obtain ⟨x, rfl⟩ := as1 hl
  have f := (ak_count.1 hl W C s1).2
  have g := (ak_count.2 hl W (M.xC f) s2).2
  exact xx_of (kc_count s1 C W) (km_count s2 (M.xC f) W) f g hx
theorem px_count : PX 78 252 1 true := by
  intro as h h1 h2 v v2 hl hb hs s1 s2
  refine ⟨(px_of pj_count xk_count as h h1 h2 v v2 hl hb hs s1 s2).1, fun _ => ?_⟩
  obtain ⟨⟨G, W, C, M⟩, hx⟩ := hs
  obtain ⟨x, rfl⟩ := as1 hl
  have f := (ak_count.1 hl W C s1).2
  rw [ca_count s1 C W, ra_count s2 (M.xC f) W, f 285 (x - 10) (by decide)]
  by_cases q : 10 < x ∧ x ≤ 16
  · rw [hx (x - 10) (by omega) (by omega)]
  · unfold cnB cnA
    rw [if_neg q, if_neg q]
theorem xk_feed : XK 12 150 1 := by
  rintro as h h1 h2 v v2 hl hb ⟨G, W, C, M⟩ hx s1 s2
  obtain ⟨x, rfl⟩ := as1 hl
  have f := (cj_feed s1 C W).2.2
  have g := (mj_feed s2 (M.xC f) W).2.2
  exact xx_of (kc_feed s1 C W) (km_feed s2 (M.xC f) W) f g hx
theorem px_feed : PX 12 150 1 true := px_of pj_feed xk_feed
theorem xk_row : XK 127 247 1 := by
  rintro as h h1 h2 v v2 hl hb ⟨G, W, C, M⟩ hx s1 s2
  obtain ⟨x, rfl⟩ := as1 hl
  have f := (cj_row s1 C W).2.2
  have g := (mj_row s2 (M.xC f) W).2.2
  exact xx_of (kc_row s1 C W) (km_row s2 (M.xC f) W) f g hx
theorem px_row : PX 127 247 1 true := px_of pj_row xk_row
theorem xk_back : XK 92 183 0 := by
  rintro as h h1 h2 v v2 hl hb ⟨G, W, C, M⟩ hx s1 s2
  have hl := as0 hl
  subst hl
  have f := (cj_back s1 C W).2.2
  have g := (mj_back s2 (M.xC f) W).2.2
  exact xx_of (kc_back s1 C W) (km_back s2 (M.xC f) W) f g hx
theorem px_back : PX 92 183 0 true := px_of pj_back xk_back
theorem xk_restore : XK 95 182 0 := by
  rintro as h h1 h2 v v2 hl hb ⟨G, W, C, M⟩ hx s1 s2
  have hl := as0 hl
  subst hl
  have f := (cj_restore s1 C W).2.2
  have g := (mj_restore s2 (M.xC f) W).2.2
  exact xx_of (kc_restore s1 C W) (km_restore s2 (M.xC f) W) f g hx
theorem px_restore : PX 95 182 0 true := px_of pj_restore xk_restore
theorem xk_person : XK 84 188 2 := by
  rintro as h h1 h2 v v2 hl hb ⟨G, W, C, M⟩ hx s1 s2
  obtain ⟨x, y, rfl⟩ := as2 hl
  have f := (cj_person s1 C W).2.2
  have g := (mj_person s2 (M.xC f) W).2.2
  exact xx_of (kc_person s1 C W) (km_person s2 (M.xC f) W) f g hx
theorem px_person : PX 84 188 2 true := px_of pj_person xk_person
theorem xk_wishes : XK 85 190 2 := by
  rintro as h h1 h2 v v2 hl hb ⟨G, W, C, M⟩ hx s1 s2
  obtain ⟨x, y, rfl⟩ := as2 hl
  have f := (cj_wishes s1 C W).2.2
  have g := (mj_wishes s2 (M.xC f) W).2.2
  exact xx_of (kc_wishes s1 C W) (km_wishes s2 (M.xC f) W) f g hx
theorem px_wishes : PX 85 190 2 true := px_of pj_wishes xk_wishes
theorem xk_believes : XK 86 191 3 := by
  rintro as h h1 h2 v v2 hl hb ⟨G, W, C, M⟩ hx s1 s2
  obtain ⟨x, y, z, rfl⟩ := as3 hl
  have f := (cj_believes s1 C W).2.2
  have g := (mj_believes s2 (M.xC f) W).2.2
  exact xx_of (kc_believes s1 C W) (km_believes s2 (M.xC f) W) f g hx
theorem px_believes : PX 86 191 3 true := px_of pj_believes xk_believes
theorem xk_fixes : XK 88 193 3 := by
  rintro as h h1 h2 v v2 hl hb ⟨G, W, C, M⟩ hx s1 s2
  obtain ⟨x, y, z, rfl⟩ := as3 hl
  have f := (cj_fixes s1 C W).2.2
  have g := (mj_fixes s2 (M.xC f) W).2.2
  exact xx_of (kc_fixes s1 C W) (km_fixes s2 (M.xC f) W) f g hx
theorem px_fixes : PX 88 193 3 true := px_of pj_fixes xk_fixes
theorem xk_days : XK 90 197 1 := by
  rintro as h h1 h2 v v2 hl hb ⟨G, W, C, M⟩ hx s1 s2
  obtain ⟨x, rfl⟩ := as1 hl
  have f := (cj_days s1 C W).2.2
  have g := (mj_days s2 (M.xC f) W).2.2
  exact xx_of (kc_days s1 C W) (km_days s2 (M.xC f) W) f g hx
theorem px_days : PX 90 197 1 false := px_of pj_days xk_days
theorem xk_proposes : XK 89 194 5 := by
  rintro as h h1 h2 v v2 hl hb ⟨G, W, C, M⟩ hx s1 s2
  obtain ⟨x, y, z, w, u, rfl⟩ := as5 hl
  have f := (cj_proposes s1 C W).2.2
  have g := (mj_proposes s2 (M.xC f) W).2.2
  obtain ⟨n1, p1, a⟩ := kc_proposes s1 C W
  obtain ⟨n2, p2, b⟩ := km_proposes s2 (M.xC f) W
  have e := proV_un p1 p2
  subst e
  exact xx_of a b f g hx
theorem px_proposes : PX 89 194 5 true := px_of pj_proposes xk_proposes
theorem xk_clear : XK 128 249 0 := by
  rintro as h h1 h2 v v2 hl hb ⟨G, W, C, M⟩ hx s1 s2
  have hl := as0 hl
  subst hl
  have f := (cj_clear s1 C W).2.2
  have g := (mj_clear s2 (M.xC f)).2.2
  exact xx_of (kc_clear s1 C W) (km_clear s2 (M.xC f) W) f g hx
theorem px_clear : PX 128 249 0 true := px_of pj_clear xk_clear
theorem xk_image : XK 94 181 0 := by
  rintro as h h1 h2 v v2 hl hb ⟨G, W, C, M⟩ hx s1 s2
  have hl := as0 hl
  subst hl
  have f := (cj_image s1 C W).2.2
  have g := (mj_image s2 (M.xC f)).2.2
  exact xx_of (kc_image s1 C W) (km_image s2 (M.xC f) W) f g hx
theorem px_image : PX 94 181 0 true := px_of pj_image xk_image
theorem xk_judge : XK 129 248 0 := by
  rintro as h h1 h2 v v2 hl hb ⟨G, W, C, M⟩ hx s1 s2
  have hl := as0 hl
  subst hl
  have f := (cj_judge s1 C W).2.2
  have g := (mj_judge s2 (M.xC f) W).2.2
  exact xx_of (kc_judge s1 C W) (km_judge s2 (M.xC f) W) f g hx
theorem px_judge : PX 129 248 0 true := px_of pj_judge xk_judge
theorem xk_town : XK 16 152 0 := by
  rintro as h h1 h2 v v2 hl hb ⟨G, W, C, M⟩ hx s1 s2
  have hl := as0 hl
  subst hl
  obtain ⟨G1, a1, a2, f⟩ := cj_town s1 C W
  obtain ⟨G2, b1, b2, g⟩ := mj_town s2 (M.xC f) W
  exact xx_of (kc_town s1 C W) (km_town s2 (M.xC f) W) f g hx
theorem px_town : PX 16 152 0 true := px_of pj_town xk_town
end PZ
