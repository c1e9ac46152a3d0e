theorem nI_z {a : Nat} (h : a < 2 ^ 31) : nI a = 0 ↔ a = 0 := nI_eq h (by decide)
/-- a Poly of the bench, whatever it holds -/
def PolyR (G : Gx) (w : Wm) (a : Nat) : Prop := ∃ (L : PL) (tk : Int32) (tp : Nat → Int32), PolyC G w a 60 L tk tp
theorem PolyR.kept {G : Gx} {w w' : Wm} {a : Nat} (h : PolyR G w a) (hf : ∀ b, a ≤ b → b < a + 4 → w' b = w b) : PolyR G w' a := by
  obtain ⟨L, k, q, h1⟩ := h
  exact ⟨L, k, q, h1.kept hf⟩
theorem PolyAt.raw {G : Gx} {w : Wm} {a : Nat} {L : PL} (h : PolyAt G w a 60 L) : PolyR G w a := by
  obtain ⟨k, q, h1, -⟩ := h
  exact ⟨L, k, q, h1⟩
def one (c : Nat) (k : Int) : PL := if k = 0 then [] else [(c, k)]
theorem one_post {G : Gx} {w' w : Wm} {P c : Nat} {k : Int} {tp : Nat → Int32} {r : Int32} (hk : -99999999 ≤ k ∧ k ≤ 99999999) (h : (r = 1 ∧ ∃ L', app 60 [] c k = some L' ∧ PolyC G w' P 60 L' 0 tp) ∨ (r = 0 ∧ app 60 [] c k = none ∧ w' = w)) : PolyAt G w' P 60 (one c k) := by
  have e : app 60 [] c k = some (one c k) := by
    unfold app one
    by_cases h0 : k = 0
    · rw [if_pos h0, if_pos h0]
    · rw [if_neg h0, if_neg h0, if_neg (by simp; omega)]; rfl
  rcases h with ⟨_, L', e1, e2⟩ | ⟨_, e1, _⟩
  · rw [e] at e1
    cases e1
    exact ⟨_, _, e2, fun z => absurd z (by decide)⟩
  · rw [e] at e1; cases e1
theorem fill_a {G : Gx} {w' : Wm} {t : Nat} {X Y : PL} {tq : Nat → Int32} {r : Int32} (hX : okP X) (hY : okP Y) (h0 : 0 < X.length) (h1 : 0 < Y.length) (hd : ∀ u, u < 16 → top X u + top Y u ≤ 9) (ht : ∀ u, u < 16 → tq u = nI (top X u + top Y u)) (h : (r = 1 ∧ ∃ L', mrg X Y (X.length * Y.length) [] (fun _ => 0) 1 = some L' ∧ PolyC G w' t 60 L' 1 tq) ∨ (r = 0 ∧ mrg X Y (X.length * Y.length) [] (fun _ => 0) 1 = none ∧ ∃ L', PolyC G w' t 60 L' 1 tq)) : (r = 1 ∧ ∃ M, pmul X Y = some M ∧ PolyAt G w' t 60 M) ∨ (r = 0 ∧ pmul X Y = none ∧ PolyR G w' t) := by
  rw [mrg_fp, ← pmul_cut h0 h1 hd] at h
  rcases h with ⟨e, M, e1, e2⟩ | ⟨e, e1, M, e2⟩
  · refine Or.inl ⟨e, M, e1, _, _, e2, fun _ u hu => ?_⟩
    rw [pmul_cut h0 h1 hd] at e1
    rw [ht u hu, (cut_some e1).1, top_fp hX hY h0 h1 hd hu]
  · exact Or.inr ⟨e, e1, _, _, _, e2⟩
theorem fill_b {G : Gx} {w' : Wm} {t : Nat} {X Y : PL} {tq : Nat → Int32} {r : Int32} (hX : okP X) (hY : okP Y) (h0 : 0 < X.length) (h1 : 0 < Y.length) (hd : ∀ u, u < 16 → top X u + top Y u ≤ 9) (ht : ∀ u, u < 16 → tq u = nI (top X u + top Y u)) (h : (r = 1 ∧ ∃ L', mrg Y X (Y.length * X.length) [] (fun _ => 0) 1 = some L' ∧ PolyC G w' t 60 L' 1 tq) ∨ (r = 0 ∧ mrg Y X (Y.length * X.length) [] (fun _ => 0) 1 = none ∧ ∃ L', PolyC G w' t 60 L' 1 tq)) : (r = 1 ∧ ∃ M, pmul X Y = some M ∧ PolyAt G w' t 60 M) ∨ (r = 0 ∧ pmul X Y = none ∧ PolyR G w' t) := by
  rw [mrg_fp, ← fp_comm hX.1 hY.1 h0 h1, ← pmul_cut h0 h1 hd] at h
  rcases h with ⟨e, M, e1, e2⟩ | ⟨e, e1, M, e2⟩
  · refine Or.inl ⟨e, M, e1, _, _, e2, fun _ u hu => ?_⟩
    rw [pmul_cut h0 h1 hd] at e1
    rw [ht u hu, (cut_some e1).1, top_fp hX hY h0 h1 hd hu]
  · exact Or.inr ⟨e, e1, _, _, _, e2⟩
theorem fill_k {G : Gx} {w w' : Wm} {t : Nat} {o : Option PL} {r : Int32} (h : (r = 1 ∧ ∃ M, o = some M ∧ PolyAt G w t 60 M) ∨ (r = 0 ∧ o = none ∧ PolyR G w t)) (hf : ∀ b, t ≤ b → b < t + 4 → w' b = w b) : (r = 1 ∧ ∃ M, o = some M ∧ PolyAt G w' t 60 M) ∨ (r = 0 ∧ o = none ∧ PolyR G w' t) := by
  rcases h with ⟨e, M, e1, e2⟩ | ⟨e, e1, e2⟩
  · exact Or.inl ⟨e, M, e1, e2.kept hf⟩
  · exact Or.inr ⟨e, e1, e2.kept hf⟩
theorem sum_post {G : Gx} {w : Wm} {t : Nat} {sg : Int} {X Y : PL} {tp : Nat → Int32} {r : Int32} (h : (r = 1 ∧ ∃ L', tsum 60 sg (X.length + Y.length) [] X Y = some L' ∧ PolyC G w t 60 L' 0 tp) ∨ (r = 0 ∧ tsum 60 sg (X.length + Y.length) [] X Y = none ∧ ∃ L', PolyC G w t 60 L' 0 tp)) : (r = 1 ∧ ∃ M, padd sg X Y = some M ∧ PolyAt G w t 60 M) ∨ (r = 0 ∧ padd sg X Y = none ∧ PolyR G w t) := by
  rcases h with ⟨e, M, e1, e2⟩ | ⟨e, e1, M, e2⟩
  · exact Or.inl ⟨e, M, e1, _, _, e2, fun z => absurd z (by decide)⟩
  · exact Or.inr ⟨e, e1, _, _, _, e2⟩

set_option maxHeartbeats 4000000 in
set_option maxRecDepth 100000 in
theorem kX0_fillProduct {l : Launch} {G : Gx} {B : Nat} {w : Wm} {n : Nat} (q m t x y cx cy : Nat) (L X Y : PL) (tk : Int32) (tp : Nat → Int32) (v0 v1 v2 : Value) (bg : Int32) (mf : Nat → Int32) (hq : w q = some (eO 0 [v0, v1, v2, .ref m, .int bg])) (hm : w m = some (eI G 60 mf)) (ht : PolyC G w t 60 L tk tp) (hx : PolyAt G w x cx X) (hy : PolyAt G w y cy Y) (okx : okP X) (oky : okP Y) (hmq : m ≠ q) (hmx : m < x ∨ x + 4 ≤ m) (hmy : m < y ∨ y + 4 ≤ m) (hmt : m < t ∨ t + 4 ≤ m) (hqx : q < x ∨ x + 4 ≤ q) (hqy : q < y ∨ y + 4 ≤ q) (hqt : q < t ∨ t + 4 ≤ q) (htx : t + 4 ≤ x ∨ x + 4 ≤ t) (hty : t + 4 ≤ y ∨ y + 4 ≤ t) (hxy : (x = y ∧ cx = cy ∧ X = Y) ∨ x + 4 ≤ y ∨ y + 4 ≤ x) : Met l yX0_fillProduct (wsM yX0_fillProduct cX0_fillProduct 4 (some .boolean)) ({ frames := 3, cells := 0, slots := 0, locals := 75 } : Room) (Pcx G B w n [.ref (q), .ref (t), .ref (x), .ref (y)]) (Qi G B (fun r w' n' => n' = n ∧ (∀ b, (b ≠ q ∧ b ≠ m ∧ (b < t ∨ t + 4 ≤ b) ∧ b ≠ x ∧ b ≠ x + 3 ∧ b ≠ y ∧ b ≠ y + 3) → w' b = w b) ∧ (∃ bg', w' q = some (eO 0 [v0, v1, v2, .ref m, .int bg'])) ∧ (∃ mf', w' m = some (eI G 60 mf')) ∧ PolyAt G w' x cx X ∧ PolyAt G w' y cy Y ∧ ((r = 1 ∧ ∃ M, pmul X Y = some M ∧ PolyAt G w' t 60 M) ∨ (r = 0 ∧ pmul X Y = none ∧ PolyR G w' t)))) 0 0 (FA B) := by
  refine en (by decide) (Nat.le_of_ble_eq_true rfl) ?_
  intro p ev s mm ag bl mt co S hr hlk hnm hK H hH ls hl
  have hl : lv_has ls 4 [(0, .ref (q)), (1, .ref (t)), (2, .ref (x)), (3, .ref (y))] := hl
  obtain ⟨kx, px, hx1, hx2⟩ := hx
  obtain ⟨ky, py, hy1, hy2⟩ := hy
  have hlx := hx1.len
  have hly := hy1.len
  have hF : ∀ b, b ≠ q ∧ b ≠ m ∧ (b < t ∨ t + 4 ≤ b) ∧ b ≠ x ∧ b ≠ x + 3 ∧ b ≠ y ∧ b ≠ y + 3 → w b = w b := fun _ _ => rfl
  refine lv_aload_n S.1 S.2.1 dX0_fillProduct_0 rfl (lv_at hl 1 rfl) ?_
  refine ck_v (run_VN (As := []) (rest := []) S hK hH (kX1_clear t 60 L tk tp ht) ceX1_clear mN110 ht.ob rfl rfl hl.1 rfl (Nat.le_of_ble_eq_true rfl) dX0_fillProduct_1 ⟨rfl, rfl, by decide, by decide⟩ ⟨show 0 + 0 ≤ 0 by omega, show 0 + 0 ≤ 0 by omega⟩) hH (fun w1 n1 H locs hp hH => ?_)
  obtain ⟨hn1, hfr, ht⟩ := hp
  rw [hn1] at hH
  replace hq := (hfr (q) (by omega)).trans hq
  replace hm := (hfr (m) (by omega)).trans hm
  replace hx1 := hx1.kept (fun b h1 h2 => hfr b (by omega))
  replace hy1 := hy1.kept (fun b h1 h2 => hfr b (by omega))
  replace hF : ∀ b, b ≠ q ∧ b ≠ m ∧ (b < t ∨ t + 4 ≤ b) ∧ b ≠ x ∧ b ≠ x + 3 ∧ b ≠ y ∧ b ≠ y + 3 → w1 b = w b := fun b hb => (hfr b (by omega)).trans (hF b hb)
  refine lv_aload_n S.1 S.2.1 dX0_fillProduct_4 rfl (lv_at hl 2 rfl) ?_
  refine gfX0_49 S hK hH hx1.ob dX0_fillProduct_5 ?_
  refine lv_if_eq (tgt := 18) S.1 S.2.1 dX0_fillProduct_8 (by decide) (fun c8 => ?_) (fun c8 => ?_)
  · skip
    have c8 : X.length = 0 := (nI_z (by omega)).mp c8
    refine lv_iconst (v := nI 1) S.1 S.2.1 dX0_fillProduct_18 (by decide) ?_
    exact rt_z S hr hlk hH dX0_fillProduct_19 (by decide) (⟨rfl, hF, ⟨_, hq⟩, ⟨_, hm⟩, ⟨_, _, hx1, hx2⟩, ⟨_, _, hy1, hy2⟩, Or.inl ⟨rfl, [], pmul_nil (Or.inl c8), _, _, ht, fun e => absurd e (by decide)⟩⟩)
  · skip
    have c8 : 0 < X.length := Nat.pos_of_ne_zero (fun e => c8 ((nI_z (by omega)).mpr e))
    refine lv_aload_n S.1 S.2.1 dX0_fillProduct_11 rfl (lv_at hl 3 rfl) ?_
    refine gfX0_49 S hK hH hy1.ob dX0_fillProduct_12 ?_
    refine lv_if_ne (tgt := 20) S.1 S.2.1 dX0_fillProduct_15 (by decide) (fun c15 => ?_) (fun c15 => ?_)
    · skip
      have c15 : 0 < Y.length := Nat.pos_of_ne_zero (fun e => c15 ((nI_z (by omega)).mpr e))
      refine lv_aload_n S.1 S.2.1 dX0_fillProduct_20 rfl (lv_at hl 1 rfl) ?_
      refine lv_aload_n S.1 S.2.1 dX0_fillProduct_21 rfl (lv_at hl 2 rfl) ?_
      refine lv_aload_n S.1 S.2.1 dX0_fillProduct_22 rfl (lv_at hl 3 rfl) ?_
      refine ck_i (run_VN (As := [.ref (x), .ref (y)]) (rest := []) S hK hH (kX1_takeTops t x y 60 cx cy [] X Y 0 tp ht ⟨kx, px, hx1, hx2⟩ ⟨ky, py, hy1, hy2⟩ htx hty hxy (fun j hj => (okx.ok j hj).1) (fun j hj => (oky.ok j hj).1)) ceX1_takeTops mN176 ht.ob rfl rfl hl.1 rfl (Nat.le_of_ble_eq_true rfl) dX0_fillProduct_23 ⟨rfl, rfl, by decide, by decide⟩ ⟨show 0 + 0 ≤ 0 by omega, show 0 + 0 ≤ 0 by omega⟩) hH (fun r23 w2 n2 H locs hp hH => ?_)
      obtain ⟨hn1, hfr, ⟨hx, hy, hq2⟩⟩ := hp
      rw [hn1] at hH
      obtain ⟨kx, px, hx1, hx2⟩ := hx
      obtain ⟨ky, py, hy1, hy2⟩ := hy
      replace hq := (hfr (q) (by omega)).trans hq
      replace hm := (hfr (m) (by omega)).trans hm
      replace hF : ∀ b, b ≠ q ∧ b ≠ m ∧ (b < t ∨ t + 4 ≤ b) ∧ b ≠ x ∧ b ≠ x + 3 ∧ b ≠ y ∧ b ≠ y + 3 → w2 b = w b := fun b hb => (hfr b (by omega)).trans (hF b hb)
      refine lv_if_ne (tgt := 31) S.1 S.2.1 dX0_fillProduct_26 (by decide) (fun c26 => ?_) (fun c26 => ?_)
      · skip
        rcases hq2 with ⟨_, hd, tq, ht, htq⟩ | ⟨e, _⟩
        rotate_left
        · exact absurd e c26
        refine lv_aload_n S.1 S.2.1 dX0_fillProduct_31 rfl (lv_at hl 2 rfl) ?_
        refine gfX0_49 S hK hH hx1.ob dX0_fillProduct_32 ?_
        refine lv_aload_n S.1 S.2.1 dX0_fillProduct_35 rfl (lv_at hl 3 rfl) ?_
        refine gfX0_49 S hK hH hy1.ob dX0_fillProduct_36 ?_
        refine bn_gt (tgt := 52) S dX0_fillProduct_39 (by decide) (by omega) (fun c39 => ?_) (fun c39 => ?_)
        · skip
          refine lv_aload_n S.1 S.2.1 dX0_fillProduct_52 rfl (lv_at hl 0 rfl) ?_
          refine lv_aload_n S.1 S.2.1 dX0_fillProduct_53 rfl (lv_at hl 1 rfl) ?_
          refine lv_aload_n S.1 S.2.1 dX0_fillProduct_54 rfl (lv_at hl 3 rfl) ?_
          refine lv_aload_n S.1 S.2.1 dX0_fillProduct_55 rfl (lv_at hl 2 rfl) ?_
          refine ck_i (run_V (As := [.ref (t), .ref (y), .ref (x)]) (rest := []) S hK hH (kX0_merge q m t y x cy cx Y X ky kx 1 py px tq v0 v1 v2 bg mf hq hm ht hy1 hx1 oky.ok okx.ok (by omega) hmq hmy hmx hmt hqy hqx hqt hty htx) ceX0_merge mW185 hq rfl rfl hl.1 rfl (Nat.le_of_ble_eq_true rfl) dX0_fillProduct_56 ⟨rfl, rfl, by decide, by decide⟩ ⟨show 0 + 0 ≤ 0 by omega, show 0 + 0 ≤ 0 by omega⟩) hH (fun r56 w3 n3 H locs hp hH => ?_)
          obtain ⟨hn1, hfr, ⟨⟨bg1, hq1⟩, ⟨mf1, hm1⟩, hq3⟩⟩ := hp
          rw [hn1] at hH
          replace hx1 := hx1.kept (fun b h1 h2 => hfr b (by omega))
          replace hy1 := hy1.kept (fun b h1 h2 => hfr b (by omega))
          replace hF : ∀ b, b ≠ q ∧ b ≠ m ∧ (b < t ∨ t + 4 ≤ b) ∧ b ≠ x ∧ b ≠ x + 3 ∧ b ≠ y ∧ b ≠ y + 3 → w3 b = w b := fun b hb => (hfr b (by omega)).trans (hF b hb)
          exact rt_z S hr hlk hH dX0_fillProduct_59 (by rcases hq3 with ⟨e, _⟩ | ⟨e, _⟩ <;> simp [e]) (⟨rfl, hF, ⟨_, hq1⟩, ⟨_, hm1⟩, ⟨_, _, hx1, hx2⟩, ⟨_, _, hy1, hy2⟩, fill_b okx oky c8 c15 hd htq hq3⟩)
        · skip
          refine lv_aload_n S.1 S.2.1 dX0_fillProduct_42 rfl (lv_at hl 0 rfl) ?_
          refine lv_aload_n S.1 S.2.1 dX0_fillProduct_43 rfl (lv_at hl 1 rfl) ?_
          refine lv_aload_n S.1 S.2.1 dX0_fillProduct_44 rfl (lv_at hl 2 rfl) ?_
          refine lv_aload_n S.1 S.2.1 dX0_fillProduct_45 rfl (lv_at hl 3 rfl) ?_
          refine ck_i (run_V (As := [.ref (t), .ref (x), .ref (y)]) (rest := []) S hK hH (kX0_merge q m t x y cx cy X Y kx ky 1 px py tq v0 v1 v2 bg mf hq hm ht hx1 hy1 okx.ok oky.ok (by omega) hmq hmx hmy hmt hqx hqy hqt htx hty) ceX0_merge mW185 hq rfl rfl hl.1 rfl (Nat.le_of_ble_eq_true rfl) dX0_fillProduct_46 ⟨rfl, rfl, by decide, by decide⟩ ⟨show 0 + 0 ≤ 0 by omega, show 0 + 0 ≤ 0 by omega⟩) hH (fun r46 w4 n4 H locs hp hH => ?_)
          obtain ⟨hn1, hfr, ⟨⟨bg1, hq1⟩, ⟨mf1, hm1⟩, hq3⟩⟩ := hp
          rw [hn1] at hH
          replace hx1 := hx1.kept (fun b h1 h2 => hfr b (by omega))
          replace hy1 := hy1.kept (fun b h1 h2 => hfr b (by omega))
          replace hF : ∀ b, b ≠ q ∧ b ≠ m ∧ (b < t ∨ t + 4 ≤ b) ∧ b ≠ x ∧ b ≠ x + 3 ∧ b ≠ y ∧ b ≠ y + 3 → w4 b = w b := fun b hb => (hfr b (by omega)).trans (hF b hb)
          refine lv_goto (tgt := 59) S.1 S.2.1 dX0_fillProduct_49 (by decide) ?_
          exact rt_z S hr hlk hH dX0_fillProduct_59 (by rcases hq3 with ⟨e, _⟩ | ⟨e, _⟩ <;> simp [e]) (⟨rfl, hF, ⟨_, hq1⟩, ⟨_, hm1⟩, ⟨_, _, hx1, hx2⟩, ⟨_, _, hy1, hy2⟩, fill_a okx oky c8 c15 hd htq hq3⟩)
      · skip
        rcases hq2 with ⟨e, _⟩ | ⟨_, hfar, tq, ht⟩
        · rw [e] at c26; exact absurd c26 (by decide)
        refine lv_iconst (v := nI 0) S.1 S.2.1 dX0_fillProduct_29 (by decide) ?_
        exact rt_z S hr hlk hH dX0_fillProduct_30 (by decide) (⟨rfl, hF, ⟨_, hq⟩, ⟨_, hm⟩, ⟨_, _, hx1, hx2⟩, ⟨_, _, hy1, hy2⟩, Or.inr ⟨rfl, pmul_far c8 c15 hfar, _, _, _, ht⟩⟩)
    · skip
      have c15 : Y.length = 0 := (nI_z (by omega)).mp c15
      refine lv_iconst (v := nI 1) S.1 S.2.1 dX0_fillProduct_18 (by decide) ?_
      exact rt_z S hr hlk hH dX0_fillProduct_19 (by decide) (⟨rfl, hF, ⟨_, hq⟩, ⟨_, hm⟩, ⟨_, _, hx1, hx2⟩, ⟨_, _, hy1, hy2⟩, Or.inl ⟨rfl, [], pmul_nil (Or.inr c15), _, _, ht, fun e => absurd e (by decide)⟩⟩)

set_option maxHeartbeats 4000000 in
set_option maxRecDepth 100000 in
theorem kX0_multiplyBy {l : Launch} {G : Gx} {B : Nat} {w : Wm} {n : Nat} (q m P T Z x cx : Nat) (A X : PL) (bg : Int32) (mf : Nat → Int32) (hq : w q = some (eO 0 [.ref P, .ref T, .ref Z, .ref m, .int bg])) (hm : w m = some (eI G 60 mf)) (hP : PolyAt G w P 60 A) (hS : PolyR G w Z) (hx : PolyAt G w x cx X) (oka : okP A) (okx : okP X) (hmq : m ≠ q) (hqP : q < P ∨ P + 4 ≤ q) (hqZ : q < Z ∨ Z + 4 ≤ q) (hqx : q < x ∨ x + 4 ≤ q) (hmP : m < P ∨ P + 4 ≤ m) (hmZ : m < Z ∨ Z + 4 ≤ m) (hmx : m < x ∨ x + 4 ≤ m) (hPZ : P + 4 ≤ Z ∨ Z + 4 ≤ P) (hPx : P + 4 ≤ x ∨ x + 4 ≤ P) (hZx : Z + 4 ≤ x ∨ x + 4 ≤ Z) : Met l yX0_multiplyBy (wsM yX0_multiplyBy cX0_multiplyBy 4 (some .boolean)) ({ frames := 4, cells := 0, slots := 0, locals := 98 } : Room) (Pcx G B w n [.ref (q), .ref (x)]) (Qi G B (fun r w' n' => n' = n ∧ (∀ b, (b ≠ q ∧ b ≠ m ∧ (b < P ∨ P + 4 ≤ b) ∧ (b < Z ∨ Z + 4 ≤ b) ∧ b ≠ x ∧ b ≠ x + 3) → w' b = w b) ∧ (∃ bg', w' q = some (eO 0 [.ref Z, .ref T, .ref P, .ref m, .int bg'])) ∧ (∃ mf', w' m = some (eI G 60 mf')) ∧ PolyAt G w' x cx X ∧ PolyR G w' P ∧ ((r = 1 ∧ ∃ M, pmul A X = some M ∧ PolyAt G w' Z 60 M) ∨ (r = 0 ∧ pmul A X = none ∧ PolyR G w' Z)))) 0 0 (FA B) := by
  refine en (by decide) (Nat.le_of_ble_eq_true rfl) ?_
  intro p ev s mm ag bl mt co S hr hlk hnm hK H hH ls hl
  have hl : lv_has ls 4 [(0, .ref (q)), (1, .ref (x))] := hl
  obtain ⟨LS, kS, pS, hS1⟩ := hS
  have hF : ∀ b, b ≠ q ∧ b ≠ m ∧ (b < P ∨ P + 4 ≤ b) ∧ (b < Z ∨ Z + 4 ≤ b) ∧ b ≠ x ∧ b ≠ x + 3 → w b = w b := fun _ _ => rfl
  refine lv_aload_n S.1 S.2.1 dX0_multiplyBy_0 rfl (lv_at hl 0 rfl) ?_
  refine lv_aload_n S.1 S.2.1 dX0_multiplyBy_1 rfl (lv_at hl 0 rfl) ?_
  refine gfX0_23 S hK hH hq dX0_multiplyBy_2 ?_
  refine lv_aload_n S.1 S.2.1 dX0_multiplyBy_5 rfl (lv_at hl 0 rfl) ?_
  refine gfX0_14 S hK hH hq dX0_multiplyBy_6 ?_
  refine lv_aload_n S.1 S.2.1 dX0_multiplyBy_9 rfl (lv_at hl 1 rfl) ?_
  refine ck_i (run_V (As := [.ref (Z), .ref (P), .ref (x)]) (rest := []) S hK hH (kX0_fillProduct q m Z P x 60 cx LS A X kS pS (.ref P) (.ref T) (.ref Z) bg mf hq hm hS1 hP hx oka okx hmq hmP hmx hmZ hqP hqx hqZ (by omega) (by omega) (Or.inr (by omega))) ceX0_fillProduct mW172 hq rfl rfl hl.1 rfl (Nat.le_of_ble_eq_true rfl) dX0_multiplyBy_10 ⟨rfl, rfl, by decide, by decide⟩ ⟨show 0 + 0 ≤ 0 by omega, show 0 + 0 ≤ 0 by omega⟩) hH (fun r10 w1 n1 H locs hp hH => ?_)
  obtain ⟨hn1, hfr, ⟨⟨bg1, hq⟩, ⟨mf1, hm⟩, hP, hx, hq3⟩⟩ := hp
  rw [hn1] at hH
  replace hF : ∀ b, b ≠ q ∧ b ≠ m ∧ (b < P ∨ P + 4 ≤ b) ∧ (b < Z ∨ Z + 4 ≤ b) ∧ b ≠ x ∧ b ≠ x + 3 → w1 b = w b := fun b hb => (hfr b (by omega)).trans (hF b hb)
  refine lv_istore_n (lv' := [(2, .int (r10)), (0, .ref (q)), (1, .ref (x))]) S.1 S.2.1 dX0_multiplyBy_13 rfl hl (by decide) rfl (fun ls hl => ?_)
  refine lv_aload_n S.1 S.2.1 dX0_multiplyBy_14 rfl (lv_at hl 1 rfl) ?_
  refine gfX0_14 S hK hH hq dX0_multiplyBy_15 ?_
  refine lv_astore_n (lv' := [(3, .ref (P)), (2, .int (r10)), (0, .ref (q)), (1, .ref (x))]) S.1 S.2.1 dX0_multiplyBy_18 rfl hl (by decide) rfl (fun ls hl => ?_)
  refine lv_aload_n S.1 S.2.1 dX0_multiplyBy_19 rfl (lv_at hl 2 rfl) ?_
  refine lv_aload_n S.1 S.2.1 dX0_multiplyBy_20 rfl (lv_at hl 2 rfl) ?_
  have hq3 : (r10 = 1 ∧ ∃ M, pmul A X = some M ∧ PolyAt G w1 Z 60 M) ∨ (r10 = 0 ∧ pmul A X = none ∧ PolyR G w1 Z) := hq3
  refine gfX0_23 S hK hH hq dX0_multiplyBy_21 ?_
  refine pfX0_14 S hK hH hq dX0_multiplyBy_24 (fun w2 H locs hq fr hH => ?_)
  replace hm := (fr (m) (by omega)).trans hm
  replace hP := hP.kept (fun b h1 h2 => fr b (by omega))
  replace hx := hx.kept (fun b h1 h2 => fr b (by omega))
  replace hF : ∀ b, b ≠ q ∧ b ≠ m ∧ (b < P ∨ P + 4 ≤ b) ∧ (b < Z ∨ Z + 4 ≤ b) ∧ b ≠ x ∧ b ≠ x + 3 → w2 b = w b := fun b hb => (fr b (by omega)).trans (hF b hb)
  replace hq3 := fill_k hq3 (fun b h1 h2 => fr b (by omega))
  refine lv_aload_n S.1 S.2.1 dX0_multiplyBy_27 rfl (lv_at hl 2 rfl) ?_
  refine lv_aload_n S.1 S.2.1 dX0_multiplyBy_28 rfl (lv_at hl 0 rfl) ?_
  refine pfX0_23 S hK hH hq dX0_multiplyBy_29 (fun w3 H locs hq fr hH => ?_)
  replace hm := (fr (m) (by omega)).trans hm
  replace hP := hP.kept (fun b h1 h2 => fr b (by omega))
  replace hx := hx.kept (fun b h1 h2 => fr b (by omega))
  replace hF : ∀ b, b ≠ q ∧ b ≠ m ∧ (b < P ∨ P + 4 ≤ b) ∧ (b < Z ∨ Z + 4 ≤ b) ∧ b ≠ x ∧ b ≠ x + 3 → w3 b = w b := fun b hb => (fr b (by omega)).trans (hF b hb)
  replace hq3 := fill_k hq3 (fun b h1 h2 => fr b (by omega))
  refine lv_iload_n S.1 S.2.1 dX0_multiplyBy_32 rfl (lv_at hl 1 rfl) ?_
  exact rt_z S hr hlk hH dX0_multiplyBy_33 (by rcases hq3 with ⟨e, _⟩ | ⟨e, _⟩ <;> simp [e]) (⟨rfl, hF, ⟨_, hq⟩, ⟨_, hm⟩, hx, hP.raw, hq3⟩)

set_option maxHeartbeats 4000000 in
set_option maxRecDepth 100000 in
theorem kX0_addProduct {l : Launch} {G : Gx} {B : Nat} {w : Wm} {n : Nat} (q m P T Z : Nat) (A C : PL) (bg : Int32) (hq : w q = some (eO 0 [.ref P, .ref T, .ref Z, .ref m, .int bg])) (hT : PolyAt G w T 60 A) (hP : PolyAt G w P 60 C) (hS : PolyR G w Z) (oka : okP A) (okc : okP C) (hqP : q < P ∨ P + 4 ≤ q) (hqT : q < T ∨ T + 4 ≤ q) (hqZ : q < Z ∨ Z + 4 ≤ q) (hPZ : P + 4 ≤ Z ∨ Z + 4 ≤ P) (hTZ : T + 4 ≤ Z ∨ Z + 4 ≤ T) : Met l yX0_addProduct (wsM yX0_addProduct cX0_addProduct 3 (some .boolean)) ({ frames := 2, cells := 0, slots := 0, locals := 57 } : Room) (Pcx G B w n [.ref (q)]) (Qi G B (fun r w' n' => n' = n ∧ (∀ b, (b ≠ q ∧ (b < Z ∨ Z + 3 ≤ b)) → w' b = w b) ∧ (∃ bg', w' q = some (eO 0 [.ref P, .ref Z, .ref T, .ref m, .int bg'])) ∧ ((r = 1 ∧ ∃ M, padd 1 A C = some M ∧ PolyAt G w' Z 60 M) ∨ (r = 0 ∧ padd 1 A C = none ∧ PolyR G w' Z)))) 0 0 (FA B) := by
  refine en (by decide) (Nat.le_of_ble_eq_true rfl) ?_
  intro p ev s mm ag bl mt co S hr hlk hnm hK H hH ls hl
  have hl : lv_has ls 3 [(0, .ref (q))] := hl
  obtain ⟨LS, kS, pS, hS1⟩ := hS
  obtain ⟨kT, pT, hT1, _⟩ := hT
  obtain ⟨kP, pP, hP1, _⟩ := hP
  have hF : ∀ b, b ≠ q ∧ (b < Z ∨ Z + 3 ≤ b) → w b = w b := fun _ _ => rfl
  refine lv_aload_n S.1 S.2.1 dX0_addProduct_0 rfl (lv_at hl 0 rfl) ?_
  refine gfX0_23 S hK hH hq dX0_addProduct_1 ?_
  refine lv_aload_n S.1 S.2.1 dX0_addProduct_4 rfl (lv_at hl 0 rfl) ?_
  refine gfX0_20 S hK hH hq dX0_addProduct_5 ?_
  refine lv_aload_n S.1 S.2.1 dX0_addProduct_8 rfl (lv_at hl 0 rfl) ?_
  refine gfX0_14 S hK hH hq dX0_addProduct_9 ?_
  refine lv_iconst (v := nI 1) S.1 S.2.1 dX0_addProduct_12 (by decide) ?_
  refine ck_i (run_VN (As := [.ref (T), .ref (P), .int (iI 1)]) (rest := []) S hK hH (kX1_takeSum Z T P 60 60 LS A C 1 kS kT kP pS pT pP hS1 hT1 hP1 (by omega) (by omega) oka.ok.B okc.ok.B (Or.inl rfl)) ceX1_takeSum mN155 hS1.ob rfl rfl hl.1 rfl (Nat.le_of_ble_eq_true rfl) dX0_addProduct_13 ⟨rfl, rfl, by decide, by decide⟩ ⟨show 0 + 0 ≤ 0 by omega, show 0 + 0 ≤ 0 by omega⟩) hH (fun r13 w1 n1 H locs hp hH => ?_)
  obtain ⟨hn1, hfr, hq3⟩ := hp
  rw [hn1] at hH
  replace hq := (hfr (q) (by omega)).trans hq
  replace hF : ∀ b, b ≠ q ∧ (b < Z ∨ Z + 3 ≤ b) → w1 b = w b := fun b hb => (hfr b (by omega)).trans (hF b hb)
  replace hq3 := sum_post hq3
  refine lv_istore_n (lv' := [(1, .int (r13)), (0, .ref (q))]) S.1 S.2.1 dX0_addProduct_16 rfl hl (by decide) rfl (fun ls hl => ?_)
  refine lv_aload_n S.1 S.2.1 dX0_addProduct_17 rfl (lv_at hl 1 rfl) ?_
  refine gfX0_20 S hK hH hq dX0_addProduct_18 ?_
  refine lv_astore_n (lv' := [(2, .ref (T)), (1, .int (r13)), (0, .ref (q))]) S.1 S.2.1 dX0_addProduct_21 rfl hl (by decide) rfl (fun ls hl => ?_)
  refine lv_aload_n S.1 S.2.1 dX0_addProduct_22 rfl (lv_at hl 2 rfl) ?_
  refine lv_aload_n S.1 S.2.1 dX0_addProduct_23 rfl (lv_at hl 2 rfl) ?_
  refine gfX0_23 S hK hH hq dX0_addProduct_24 ?_
  refine pfX0_20 S hK hH hq dX0_addProduct_27 (fun w2 H locs hq fr hH => ?_)
  replace hF : ∀ b, b ≠ q ∧ (b < Z ∨ Z + 3 ≤ b) → w2 b = w b := fun b hb => (fr b (by omega)).trans (hF b hb)
  replace hq3 := fill_k hq3 (fun b h1 h2 => fr b (by omega))
  refine lv_aload_n S.1 S.2.1 dX0_addProduct_30 rfl (lv_at hl 2 rfl) ?_
  refine lv_aload_n S.1 S.2.1 dX0_addProduct_31 rfl (lv_at hl 0 rfl) ?_
  refine pfX0_23 S hK hH hq dX0_addProduct_32 (fun w3 H locs hq fr hH => ?_)
  replace hF : ∀ b, b ≠ q ∧ (b < Z ∨ Z + 3 ≤ b) → w3 b = w b := fun b hb => (fr b (by omega)).trans (hF b hb)
  replace hq3 := fill_k hq3 (fun b h1 h2 => fr b (by omega))
  refine lv_iload_n S.1 S.2.1 dX0_addProduct_35 rfl (lv_at hl 1 rfl) ?_
  exact rt_z S hr hlk hH dX0_addProduct_36 (by rcases hq3 with ⟨e, _⟩ | ⟨e, _⟩ <;> simp [e]) (⟨rfl, hF, ⟨_, hq⟩, hq3⟩)

set_option maxHeartbeats 4000000 in
set_option maxRecDepth 100000 in
theorem kX0_makeProduct {l : Launch} {G : Gx} {B : Nat} {w : Wm} {n : Nat} (q m P T Z x y cx cy : Nat) (X Y : PL) (bg : Int32) (mf : Nat → Int32) (hq : w q = some (eO 0 [.ref P, .ref T, .ref Z, .ref m, .int bg])) (hm : w m = some (eI G 60 mf)) (hP : PolyR G w P) (hx : PolyAt G w x cx X) (hy : PolyAt G w y cy Y) (okx : okP X) (oky : okP Y) (hmq : m ≠ q) (hqP : q < P ∨ P + 4 ≤ q) (hqx : q < x ∨ x + 4 ≤ q) (hqy : q < y ∨ y + 4 ≤ q) (hmP : m < P ∨ P + 4 ≤ m) (hmx : m < x ∨ x + 4 ≤ m) (hmy : m < y ∨ y + 4 ≤ m) (hPx : P + 4 ≤ x ∨ x + 4 ≤ P) (hPy : P + 4 ≤ y ∨ y + 4 ≤ P) (hxy : (x = y ∧ cx = cy ∧ X = Y) ∨ x + 4 ≤ y ∨ y + 4 ≤ x) : Met l yX0_makeProduct (wsM yX0_makeProduct cX0_makeProduct 3 (some .boolean)) ({ frames := 4, cells := 0, slots := 0, locals := 98 } : Room) (Pcx G B w n [.ref (q), .ref (x), .ref (y)]) (Qi G B (fun r w' n' => n' = n ∧ (∀ b, (b ≠ q ∧ b ≠ m ∧ (b < P ∨ P + 4 ≤ b) ∧ b ≠ x ∧ b ≠ x + 3 ∧ b ≠ y ∧ b ≠ y + 3) → w' b = w b) ∧ (∃ bg', w' q = some (eO 0 [.ref P, .ref T, .ref Z, .ref m, .int bg'])) ∧ (∃ mf', w' m = some (eI G 60 mf')) ∧ PolyAt G w' x cx X ∧ PolyAt G w' y cy Y ∧ ((r = 1 ∧ ∃ M, pmul X Y = some M ∧ PolyAt G w' P 60 M) ∨ (r = 0 ∧ pmul X Y = none ∧ PolyR G w' P)))) 0 0 (FA B) := by
  refine en (by decide) (Nat.le_of_ble_eq_true rfl) ?_
  intro p ev s mm ag bl mt co S hr hlk hnm hK H hH ls hl
  have hl : lv_has ls 3 [(0, .ref (q)), (1, .ref (x)), (2, .ref (y))] := hl
  obtain ⟨LP, kP, pP, hP1⟩ := hP
  have hF : ∀ b, b ≠ q ∧ b ≠ m ∧ (b < P ∨ P + 4 ≤ b) ∧ b ≠ x ∧ b ≠ x + 3 ∧ b ≠ y ∧ b ≠ y + 3 → w b = w b := fun _ _ => rfl
  refine lv_aload_n S.1 S.2.1 dX0_makeProduct_0 rfl (lv_at hl 0 rfl) ?_
  refine lv_aload_n S.1 S.2.1 dX0_makeProduct_1 rfl (lv_at hl 0 rfl) ?_
  refine gfX0_14 S hK hH hq dX0_makeProduct_2 ?_
  refine lv_aload_n S.1 S.2.1 dX0_makeProduct_5 rfl (lv_at hl 1 rfl) ?_
  refine lv_aload_n S.1 S.2.1 dX0_makeProduct_6 rfl (lv_at hl 2 rfl) ?_
  refine ck_i (run_V (As := [.ref (P), .ref (x), .ref (y)]) (rest := []) S hK hH (kX0_fillProduct q m P x y cx cy LP X Y kP pP (.ref P) (.ref T) (.ref Z) bg mf hq hm hP1 hx hy okx oky hmq hmx hmy hmP hqx hqy hqP hPx hPy hxy) ceX0_fillProduct mW172 hq rfl rfl hl.1 rfl (Nat.le_of_ble_eq_true rfl) dX0_makeProduct_7 ⟨rfl, rfl, by decide, by decide⟩ ⟨show 0 + 0 ≤ 0 by omega, show 0 + 0 ≤ 0 by omega⟩) hH (fun r7 w1 n1 H locs hp hH => ?_)
  obtain ⟨hn1, hfr, ⟨⟨bg1, hq⟩, ⟨mf1, hm⟩, hx, hy, hq3⟩⟩ := hp
  rw [hn1] at hH
  replace hF : ∀ b, b ≠ q ∧ b ≠ m ∧ (b < P ∨ P + 4 ≤ b) ∧ b ≠ x ∧ b ≠ x + 3 ∧ b ≠ y ∧ b ≠ y + 3 → w1 b = w b := fun b hb => (hfr b (by omega)).trans (hF b hb)
  exact rt_z S hr hlk hH dX0_makeProduct_10 (by rcases hq3 with ⟨e, _⟩ | ⟨e, _⟩ <;> simp [e]) (⟨rfl, hF, ⟨_, hq⟩, ⟨_, hm⟩, hx, hy, hq3⟩)

set_option maxHeartbeats 4000000 in
set_option maxRecDepth 100000 in
theorem kX0_makeTotal {l : Launch} {G : Gx} {B : Nat} {w : Wm} {n : Nat} (q T x y cx cy : Nat) (X Y : PL) (sg : Int) (v0 v2 v3 v4 : Value) (hq : w q = some (eO 0 [v0, .ref T, v2, v3, v4])) (hT : PolyR G w T) (hx : PolyAt G w x cx X) (hy : PolyAt G w y cy Y) (okx : okP X) (oky : okP Y) (hsg : sg = 1 ∨ sg = -1) (hTx : T + 4 ≤ x ∨ x + 4 ≤ T) (hTy : T + 4 ≤ y ∨ y + 4 ≤ T) : Met l yX0_makeTotal (wsM yX0_makeTotal cX0_makeTotal 4 (some .boolean)) ({ frames := 2, cells := 0, slots := 0, locals := 57 } : Room) (Pcx G B w n [.ref (q), .ref (x), .ref (y), .int (iI sg)]) (Qi G B (fun r w' n' => n' = n ∧ (∀ b, (b < T ∨ T + 3 ≤ b) → w' b = w b) ∧ ((r = 1 ∧ ∃ M, padd sg X Y = some M ∧ PolyAt G w' T 60 M) ∨ (r = 0 ∧ padd sg X Y = none ∧ PolyR G w' T)))) 0 0 (FA B) := by
  refine en (by decide) (Nat.le_of_ble_eq_true rfl) ?_
  intro p ev s mm ag bl mt co S hr hlk hnm hK H hH ls hl
  have hl : lv_has ls 4 [(0, .ref (q)), (1, .ref (x)), (2, .ref (y)), (3, .int (iI sg))] := hl
  obtain ⟨LT, kT, pT, hT1⟩ := hT
  obtain ⟨kx, px, hx1, _⟩ := hx
  obtain ⟨ky, py, hy1, _⟩ := hy
  have hF : ∀ b, b < T ∨ T + 3 ≤ b → w b = w b := fun _ _ => rfl
  refine lv_aload_n S.1 S.2.1 dX0_makeTotal_0 rfl (lv_at hl 0 rfl) ?_
  refine gfX0_20 S hK hH hq dX0_makeTotal_1 ?_
  refine lv_aload_n S.1 S.2.1 dX0_makeTotal_4 rfl (lv_at hl 1 rfl) ?_
  refine lv_aload_n S.1 S.2.1 dX0_makeTotal_5 rfl (lv_at hl 2 rfl) ?_
  refine lv_iload_n S.1 S.2.1 dX0_makeTotal_6 rfl (lv_at hl 3 rfl) ?_
  refine ck_i (run_VN (As := [.ref (x), .ref (y), .int (iI sg)]) (rest := []) S hK hH (kX1_takeSum T x y cx cy LT X Y sg kT kx ky pT px py hT1 hx1 hy1 hTx hTy okx.ok.B oky.ok.B hsg) ceX1_takeSum mN155 hT1.ob rfl rfl hl.1 rfl (Nat.le_of_ble_eq_true rfl) dX0_makeTotal_7 ⟨rfl, rfl, by decide, by decide⟩ ⟨show 0 + 0 ≤ 0 by omega, show 0 + 0 ≤ 0 by omega⟩) hH (fun r7 w1 n1 H locs hp hH => ?_)
  obtain ⟨hn1, hfr, hq3⟩ := hp
  rw [hn1] at hH
  replace hF : ∀ b, b < T ∨ T + 3 ≤ b → w1 b = w b := fun b hb => (hfr b (by omega)).trans (hF b hb)
  replace hq3 := sum_post hq3
  exact rt_z S hr hlk hH dX0_makeTotal_10 (by rcases hq3 with ⟨e, _⟩ | ⟨e, _⟩ <;> simp [e]) (⟨rfl, hF, hq3⟩)

set_option maxHeartbeats 4000000 in
set_option maxRecDepth 100000 in
theorem kX0_beginTotal {l : Launch} {G : Gx} {B : Nat} {w : Wm} {n : Nat} (q T : Nat) (v0 v2 v3 v4 : Value) (hq : w q = some (eO 0 [v0, .ref T, v2, v3, v4])) (hT : PolyR G w T) : Met l yX0_beginTotal (wsM yX0_beginTotal cX0_beginTotal 1 none) ({ frames := 1, cells := 0, slots := 0, locals := 20 } : Room) (Pcx G B w n [.ref (q)]) (Qv G B (fun w' n' => n' = n ∧ (∀ b, b ≠ T → w' b = w b) ∧ PolyAt G w' T 60 [])) 0 0 (FA B) := by
  refine en (by decide) (Nat.le_of_ble_eq_true rfl) ?_
  intro p ev s mm ag bl mt co S hr hlk hnm hK H hH ls hl
  have hl : lv_has ls 1 [(0, .ref (q))] := hl
  obtain ⟨LT, kT, pT, hT1⟩ := hT
  have hF : ∀ b, b ≠ T → w b = w b := fun _ _ => rfl
  refine lv_aload_n S.1 S.2.1 dX0_beginTotal_0 rfl (lv_at hl 0 rfl) ?_
  refine gfX0_20 S hK hH hq dX0_beginTotal_1 ?_
  refine ck_v (run_VN (As := []) (rest := []) S hK hH (kX1_clear T 60 LT kT pT hT1) ceX1_clear mN110 hT1.ob rfl rfl hl.1 rfl (Nat.le_of_ble_eq_true rfl) dX0_beginTotal_4 ⟨rfl, rfl, by decide, by decide⟩ ⟨show 0 + 0 ≤ 0 by omega, show 0 + 0 ≤ 0 by omega⟩) hH (fun w1 n1 H locs hp hH => ?_)
  obtain ⟨hn1, hfr, hT2⟩ := hp
  rw [hn1] at hH
  replace hF : ∀ b, b ≠ T → w1 b = w b := fun b hb => (hfr b (by omega)).trans (hF b hb)
  exact rt_v S hr hlk hH dX0_beginTotal_7 (⟨rfl, hF, _, _, hT2, fun e => absurd e (by decide)⟩)

set_option maxHeartbeats 4000000 in
set_option maxRecDepth 100000 in
theorem kX0_beginProduct {l : Launch} {G : Gx} {B : Nat} {w : Wm} {n : Nat} (q P c : Nat) (k : Int) (v1 v2 v3 v4 : Value) (hq : w q = some (eO 0 [.ref P, v1, v2, v3, v4])) (hP : PolyR G w P) (hk : -99999999 ≤ k ∧ k ≤ 99999999) (hqP : q < P ∨ P + 4 ≤ q) : Met l yX0_beginProduct (wsM yX0_beginProduct cX0_beginProduct 4 none) ({ frames := 1, cells := 0, slots := 0, locals := 24 } : Room) (Pcx G B w n [.ref (q), .long (lN c), .int (iI k)]) (Qv G B (fun w' n' => n' = n ∧ (∀ b, (b < P ∨ P + 3 ≤ b) → w' b = w b) ∧ PolyAt G w' P 60 (one c k))) 0 0 (FA B) := by
  refine en (by decide) (Nat.le_of_ble_eq_true rfl) ?_
  intro p ev s mm ag bl mt co S hr hlk hnm hK H hH ls hl
  have hl : lv_has ls 4 [(0, .ref (q)), (1, .long (lN c)), (3, .int (iI k))] := hl
  obtain ⟨LP, kP, pP, hP1⟩ := hP
  have hF : ∀ b, b < P ∨ P + 3 ≤ b → w b = w b := fun _ _ => rfl
  refine lv_aload_n S.1 S.2.1 dX0_beginProduct_0 rfl (lv_at hl 0 rfl) ?_
  refine gfX0_14 S hK hH hq dX0_beginProduct_1 ?_
  refine ck_v (run_VN (As := []) (rest := []) S hK hH (kX1_clear P 60 LP kP pP hP1) ceX1_clear mN110 hP1.ob rfl rfl hl.1 rfl (Nat.le_of_ble_eq_true rfl) dX0_beginProduct_4 ⟨rfl, rfl, by decide, by decide⟩ ⟨show 0 + 0 ≤ 0 by omega, show 0 + 0 ≤ 0 by omega⟩) hH (fun w1 n1 H locs hp hH => ?_)
  obtain ⟨hn1, hfr, hP2⟩ := hp
  rw [hn1] at hH
  replace hq := (hfr (q) (by omega)).trans hq
  replace hF : ∀ b, b < P ∨ P + 3 ≤ b → w1 b = w b := fun b hb => (hfr b (by omega)).trans (hF b hb)
  refine lv_aload_n S.1 S.2.1 dX0_beginProduct_7 rfl (lv_at hl 0 rfl) ?_
  refine gfX0_14 S hK hH hq dX0_beginProduct_8 ?_
  refine lv_lload_n S.1 S.2.1 dX0_beginProduct_11 rfl (lv_at hl 1 rfl) ?_
  refine lv_iload_n S.1 S.2.1 dX0_beginProduct_12 rfl (lv_at hl 2 rfl) ?_
  refine lv_i2l (v := lI (k)) S.1 S.2.1 dX0_beginProduct_13 (iI_l (by omega)) ?_
  refine ck_i (run_VN (As := [.long (lN c), .long (lI (k))]) (rest := []) S hK hH (kX1_append P 60 c [] k 0 pP hP2 (by omega)) ceX1_append mN114 hP2.ob rfl rfl hl.1 rfl (Nat.le_of_ble_eq_true rfl) dX0_beginProduct_14 ⟨rfl, rfl, by decide, by decide⟩ ⟨show 0 + 0 ≤ 0 by omega, show 0 + 0 ≤ 0 by omega⟩) hH (fun r14 w2 n2 H locs hp hH => ?_)
  obtain ⟨hn1, hfr, hq3⟩ := hp
  rw [hn1] at hH
  replace hq := (hfr (q) (by omega)).trans hq
  replace hF : ∀ b, b < P ∨ P + 3 ≤ b → w2 b = w b := fun b hb => (hfr b (by omega)).trans (hF b hb)
  have hP3 := one_post hk hq3
  refine lv_pop S.1 S.2.1 dX0_beginProduct_17 rfl ?_
  exact rt_v S hr hlk hH dX0_beginProduct_18 (⟨rfl, hF, hP3⟩)

set_option maxHeartbeats 4000000 in
set_option maxRecDepth 100000 in
theorem kX0_init {l : Launch} {G : Gx} {B : Nat} {w : Wm} {n : Nat} (q : Nat) (h0 : w q = some (eO 0 [.null, .null, .null, .null, .int 0])) (hn : n = q + 1) : Met l yX0_init (wsM yX0_init cX0_init 1 none) ({ frames := 2, cells := 13, slots := 483, locals := 43 } : Room) (Pcx G B w n [.ref (q)]) (Qv G B (fun w' n' => n' = q + 14 ∧ (∀ b, (b < q ∨ q + 14 ≤ b) → w' b = w b) ∧ (∃ bg', w' q = some (eO 0 [.ref (q + 1), .ref (q + 5), .ref (q + 9), .ref (q + 13), .int bg'])) ∧ (∃ mf', w' (q + 13) = some (eI G 60 mf')) ∧ PolyAt G w' (q + 1) 60 [] ∧ PolyAt G w' (q + 5) 60 [] ∧ PolyAt G w' (q + 9) 60 [])) 13 483 (FA B) := by
  refine en (by decide) (Nat.le_of_ble_eq_true rfl) ?_
  intro p ev s mm ag bl mt co S hr hlk hnm hK H hH ls hl
  have hl : lv_has ls 1 [(0, .ref (q))] := hl
  subst hn
  have hF : ∀ b, b < q ∨ q + 14 ≤ b → w b = w b := fun _ _ => rfl
  refine lv_aload_n S.1 S.2.1 dX0_init_0 rfl (lv_at hl 0 rfl) ?_
  refine W.objInit S.1 S.2.1 S.2.2.2.1 (S.2.2.2.2 _ mW54) (S.2.2.2.2 _ mW12) (S.2.2.2.2 _ mW13) rfl (hl.1.trans S.2.2.1.symm) rfl dX0_init_1 (by decide) (Nat.le_of_ble_eq_true rfl) ?_
  refine W.eq (g2 := F0 mm 4 ls []) rfl ?_
  refine lv_aload_n S.1 S.2.1 dX0_init_4 rfl (lv_at hl 0 rfl) ?_
  refine nwo (ci := 1) (fs := [.null, .null, .int (0), .null, .int (0)]) S hK hH rfl fwX1 tyX1 tyX1_ok mW55 mW15 mW2 (fun j hj => by rcases (show j = 0 ∨ j = 1 ∨ j = 2 ∨ j = 3 ∨ j = 4 by omega) with rfl | rfl | rfl | rfl | rfl <;> rfl) (show 0 + 1 ≤ 13 by omega) (show 0 + 5 ≤ 483 by omega) dX0_init_5 (fun w1 H oa fr hH => ?_)
  replace h0 := (fr (q) (by omega)).trans h0
  replace hF : ∀ b, b < q ∨ q + 14 ≤ b → w1 b = w b := fun b hb => (fr b (by omega)).trans (hF b hb)
  refine lv_dup S.1 S.2.1 dX0_init_8 rfl ?_
  refine lv_bipush (v := nI 60) S.1 S.2.1 dX0_init_9 (by decide) ?_
  refine ck_v (run_IN (As := [.int (nI 60)]) (rest := [.ref (q + 1), .ref (q)]) S hK hH (kX1_init (q + 1) 60 oa (by omega) rfl) ceX1_init mN56 rfl hl.1 rfl (Nat.le_of_ble_eq_true rfl) dX0_init_11 ⟨rfl, rfl, by decide, by decide⟩ ⟨show (0 + 1) + 3 ≤ 13 by omega, show (0 + 5) + 136 ≤ 483 by omega⟩) hH (fun w3 n3 H locs hp hH => ?_)
  obtain ⟨hn1, hfr, hoa⟩ := hp
  rw [hn1] at hH
  replace h0 := (hfr (q) (by omega)).trans h0
  replace hF : ∀ b, b < q ∨ q + 14 ≤ b → w3 b = w b := fun b hb => (hfr b (by omega)).trans (hF b hb)
  refine pfX0_14 S hK hH h0 dX0_init_14 (fun w4 H locs h0 fr hH => ?_)
  replace hoa := hoa.kept (fun b h1 h2 => fr b (by omega))
  replace hF : ∀ b, b < q ∨ q + 14 ≤ b → w4 b = w b := fun b hb => (fr b (by omega)).trans (hF b hb)
  refine lv_aload_n S.1 S.2.1 dX0_init_17 rfl (lv_at hl 0 rfl) ?_
  refine nwo (ci := 1) (fs := [.null, .null, .int (0), .null, .int (0)]) S hK hH rfl fwX1 tyX1 tyX1_ok mW55 mW15 mW2 (fun j hj => by rcases (show j = 0 ∨ j = 1 ∨ j = 2 ∨ j = 3 ∨ j = 4 by omega) with rfl | rfl | rfl | rfl | rfl <;> rfl) (show ((0 + 1) + 3) + 1 ≤ 13 by omega) (show ((0 + 5) + 136) + 5 ≤ 483 by omega) dX0_init_18 (fun w5 H ob fr hH => ?_)
  replace h0 := (fr (q) (by omega)).trans h0
  replace hoa := hoa.kept (fun b h1 h2 => fr b (by omega))
  replace hF : ∀ b, b < q ∨ q + 14 ≤ b → w5 b = w b := fun b hb => (fr b (by omega)).trans (hF b hb)
  refine lv_dup S.1 S.2.1 dX0_init_21 rfl ?_
  refine lv_bipush (v := nI 60) S.1 S.2.1 dX0_init_22 (by decide) ?_
  refine ck_v (run_IN (As := [.int (nI 60)]) (rest := [.ref (q + 5), .ref (q)]) S hK hH (kX1_init (q + 5) 60 ob (by omega) rfl) ceX1_init mN56 rfl hl.1 rfl (Nat.le_of_ble_eq_true rfl) dX0_init_24 ⟨rfl, rfl, by decide, by decide⟩ ⟨show (((0 + 1) + 3) + 1) + 3 ≤ 13 by omega, show (((0 + 5) + 136) + 5) + 136 ≤ 483 by omega⟩) hH (fun w7 n7 H locs hp hH => ?_)
  obtain ⟨hn1, hfr, hob⟩ := hp
  rw [hn1] at hH
  replace h0 := (hfr (q) (by omega)).trans h0
  replace hoa := hoa.kept (fun b h1 h2 => hfr b (by omega))
  replace hF : ∀ b, b < q ∨ q + 14 ≤ b → w7 b = w b := fun b hb => (hfr b (by omega)).trans (hF b hb)
  refine pfX0_20 S hK hH h0 dX0_init_27 (fun w8 H locs h0 fr hH => ?_)
  replace hoa := hoa.kept (fun b h1 h2 => fr b (by omega))
  replace hob := hob.kept (fun b h1 h2 => fr b (by omega))
  replace hF : ∀ b, b < q ∨ q + 14 ≤ b → w8 b = w b := fun b hb => (fr b (by omega)).trans (hF b hb)
  refine lv_aload_n S.1 S.2.1 dX0_init_30 rfl (lv_at hl 0 rfl) ?_
  refine nwo (ci := 1) (fs := [.null, .null, .int (0), .null, .int (0)]) S hK hH rfl fwX1 tyX1 tyX1_ok mW55 mW15 mW2 (fun j hj => by rcases (show j = 0 ∨ j = 1 ∨ j = 2 ∨ j = 3 ∨ j = 4 by omega) with rfl | rfl | rfl | rfl | rfl <;> rfl) (show ((((0 + 1) + 3) + 1) + 3) + 1 ≤ 13 by omega) (show ((((0 + 5) + 136) + 5) + 136) + 5 ≤ 483 by omega) dX0_init_31 (fun w9 H oc fr hH => ?_)
  replace h0 := (fr (q) (by omega)).trans h0
  replace hoa := hoa.kept (fun b h1 h2 => fr b (by omega))
  replace hob := hob.kept (fun b h1 h2 => fr b (by omega))
  replace hF : ∀ b, b < q ∨ q + 14 ≤ b → w9 b = w b := fun b hb => (fr b (by omega)).trans (hF b hb)
  refine lv_dup S.1 S.2.1 dX0_init_34 rfl ?_
  refine lv_bipush (v := nI 60) S.1 S.2.1 dX0_init_35 (by decide) ?_
  refine ck_v (run_IN (As := [.int (nI 60)]) (rest := [.ref (q + 9), .ref (q)]) S hK hH (kX1_init (q + 9) 60 oc (by omega) rfl) ceX1_init mN56 rfl hl.1 rfl (Nat.le_of_ble_eq_true rfl) dX0_init_37 ⟨rfl, rfl, by decide, by decide⟩ ⟨show (((((0 + 1) + 3) + 1) + 3) + 1) + 3 ≤ 13 by omega, show (((((0 + 5) + 136) + 5) + 136) + 5) + 136 ≤ 483 by omega⟩) hH (fun w11 n11 H locs hp hH => ?_)
  obtain ⟨hn1, hfr, hoc⟩ := hp
  rw [hn1] at hH
  replace h0 := (hfr (q) (by omega)).trans h0
  replace hoa := hoa.kept (fun b h1 h2 => hfr b (by omega))
  replace hob := hob.kept (fun b h1 h2 => hfr b (by omega))
  replace hF : ∀ b, b < q ∨ q + 14 ≤ b → w11 b = w b := fun b hb => (hfr b (by omega)).trans (hF b hb)
  refine pfX0_23 S hK hH h0 dX0_init_40 (fun w12 H locs h0 fr hH => ?_)
  replace hoa := hoa.kept (fun b h1 h2 => fr b (by omega))
  replace hob := hob.kept (fun b h1 h2 => fr b (by omega))
  replace hoc := hoc.kept (fun b h1 h2 => fr b (by omega))
  replace hF : ∀ b, b < q ∨ q + 14 ≤ b → w12 b = w b := fun b hb => (fr b (by omega)).trans (hF b hb)
  refine lv_aload_n S.1 S.2.1 dX0_init_43 rfl (lv_at hl 0 rfl) ?_
  refine lv_bipush (v := nI 60) S.1 S.2.1 dX0_init_44 (by decide) ?_
  refine nwa_i S hK hH mW47 (by omega) (show ((((((0 + 1) + 3) + 1) + 3) + 1) + 3) + 1 ≤ 13 by omega) (show ((((((0 + 5) + 136) + 5) + 136) + 5) + 136) + (60) ≤ 483 by omega) dX0_init_46 (fun w13 H hm fr hH => ?_)
  replace h0 := (fr (q) (by omega)).trans h0
  replace hoa := hoa.kept (fun b h1 h2 => fr b (by omega))
  replace hob := hob.kept (fun b h1 h2 => fr b (by omega))
  replace hoc := hoc.kept (fun b h1 h2 => fr b (by omega))
  replace hF : ∀ b, b < q ∨ q + 14 ≤ b → w13 b = w b := fun b hb => (fr b (by omega)).trans (hF b hb)
  refine pfX0_26 S hK hH h0 hnm dX0_init_48 (fun w15 H locs h0 fr hH => ?_)
  replace hm := (fr (q + 13) (by omega)).trans hm
  replace hoa := hoa.kept (fun b h1 h2 => fr b (by omega))
  replace hob := hob.kept (fun b h1 h2 => fr b (by omega))
  replace hoc := hoc.kept (fun b h1 h2 => fr b (by omega))
  replace hF : ∀ b, b < q ∨ q + 14 ≤ b → w15 b = w b := fun b hb => (fr b (by omega)).trans (hF b hb)
  refine lv_aload_n S.1 S.2.1 dX0_init_51 rfl (lv_at hl 0 rfl) ?_
  refine lv_iconst (v := nI 0) S.1 S.2.1 dX0_init_52 (by decide) ?_
  refine pfX0_30 S hK hH h0 dX0_init_53 (fun w16 H locs h0 fr hH => ?_)
  replace hm := (fr (q + 13) (by omega)).trans hm
  replace hoa := hoa.kept (fun b h1 h2 => fr b (by omega))
  replace hob := hob.kept (fun b h1 h2 => fr b (by omega))
  replace hoc := hoc.kept (fun b h1 h2 => fr b (by omega))
  replace hF : ∀ b, b < q ∨ q + 14 ≤ b → w16 b = w b := fun b hb => (fr b (by omega)).trans (hF b hb)
  refine W.widen (k := 13) (n := 483) (by omega) (by omega) ?_
  exact rt_v S hr hlk hH dX0_init_56 (⟨rfl, hF, ⟨_, h0⟩, ⟨_, hm⟩, ⟨_, _, hoa, fun e => absurd e (by decide)⟩, ⟨_, _, hob, fun e => absurd e (by decide)⟩, ⟨_, _, hoc, fun e => absurd e (by decide)⟩⟩)

