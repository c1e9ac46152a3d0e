/-- a Poly with a right picture of its tops, if it has one -/
def PolyAt (G : Gx) (w : Wm) (a cap : Nat) (L : PL) : Prop := ∃ (tk : Int32) (tp : Nat → Int32), PolyC G w a cap L tk tp ∧ (tk = 1 → ∀ t, t < 16 → tp t = nI (top L t))
def TopsAt (G : Gx) (w : Wm) (a cap : Nat) (L : PL) : Prop := ∃ (tp : Nat → Int32), PolyC G w a cap L 1 tp ∧ ∀ t, t < 16 → tp t = nI (top L t)
theorem PolyAt.kept {G : Gx} {w w' : Wm} {a cap : Nat} {L : PL} (h : PolyAt G w a cap L) (hf : ∀ b, a ≤ b → b < a + 4 → w' b = w b) : PolyAt G w' a cap L := by
  obtain ⟨k, q, h1, h2⟩ := h
  exact ⟨k, q, h1.kept hf, h2⟩
theorem PolyAt.after {G : Gx} {w w1 : Wm} {x y cx cy : Nat} {X Y : PL} {tp : Nat → Int32} (hy : PolyAt G w y cy Y) (hx : PolyC G w1 x cx X 1 tp) (ht : ∀ t, t < 16 → tp t = nI (top X t)) (hfr : ∀ b, (b ≠ x ∧ b ≠ x + 3) → w1 b = w b) (hxy : (x = y ∧ cx = cy ∧ X = Y) ∨ x + 4 ≤ y ∨ y + 4 ≤ x) : PolyAt G w1 y cy Y := by
  rcases hxy with ⟨rfl, rfl, rfl⟩ | h
  · exact ⟨_, _, hx, fun _ => ht⟩
  · exact hy.kept (fun b h3 h4 => hfr b (by omega))
theorem TopsAt.after {G : Gx} {w w1 : Wm} {x y cx cy : Nat} {X Y : PL} {tp : Nat → Int32} (hx : TopsAt G w x cx X) (hy : PolyC G w1 y cy Y 1 tp) (ht : ∀ t, t < 16 → tp t = nI (top Y t)) (hfr : ∀ b, (b ≠ y ∧ b ≠ y + 3) → w1 b = w b) (hxy : (x = y ∧ cx = cy ∧ X = Y) ∨ x + 4 ≤ y ∨ y + 4 ≤ x) : TopsAt G w1 x cx X := by
  rcases hxy with ⟨rfl, rfl, rfl⟩ | h
  · exact ⟨_, hy, ht⟩
  · obtain ⟨q, h1, h2⟩ := hx
    exact ⟨q, h1.kept (fun b h3 h4 => hfr b (by omega)), h2⟩
/-- the next term of a sum, and what is left -/
def nxt (sg : Int) : PL → PL → (Nat × Int) × PL × PL
  | [], [] => ((0, 0), [], [])
  | x :: X, [] => ((x.1, 0 + x.2), X, [])
  | [], y :: Y => ((y.1, 0 + sg * y.2), [], Y)
  | x :: X, y :: Y => if x.1 = y.1 then ((x.1, 0 + x.2 + sg * y.2), X, Y) else if y.1 < x.1 then ((x.1, 0 + x.2), X, y :: Y) else ((y.1, 0 + sg * y.2), x :: X, Y)
def tsum (cap : Nat) (sg : Int) : Nat → PL → PL → PL → Option PL
  | 0, acc, _, _ => some acc
  | f + 1, acc, X, Y => if X.length = 0 ∧ Y.length = 0 then some acc else (app cap acc (nxt sg X Y).1.1 (nxt sg X Y).1.2).bind (fun a => tsum cap sg f a (nxt sg X Y).2.1 (nxt sg X Y).2.2)
theorem ts_cases {X Y : PL} {i j : Nat} (h : i < X.length ∨ j < Y.length) : (i < X.length ∧ Y.length ≤ j) ∨ (X.length ≤ i ∧ j < Y.length) ∨ (i < X.length ∧ j < Y.length ∧ cd Y j < cd X i) ∨ (i < X.length ∧ j < Y.length ∧ cd X i = cd Y j) ∨ (i < X.length ∧ j < Y.length ∧ cd X i < cd Y j) := by omega
theorem sg_b {sg z : Int} (h : sg = 1 ∨ sg = -1) (hz : -2147483648 ≤ z ∧ z < 2147483648) : -2147483648 ≤ sg * z ∧ sg * z ≤ 2147483648 := by
  rcases h with rfl | rfl <;> omega
section NX
variable {sg : Int} {X Y : PL} {i j : Nat}
theorem nxtA (hi : i < X.length) (hj : Y.length ≤ j) : nxt sg (X.drop i) (Y.drop j) = ((cd X i, 0 + cf X i), X.drop (i + 1), Y.drop j) := by
  rw [drop_cd hi, List.drop_of_length_le hj]; rfl
theorem nxtB (hi : X.length ≤ i) (hj : j < Y.length) : nxt sg (X.drop i) (Y.drop j) = ((cd Y j, 0 + sg * cf Y j), X.drop i, Y.drop (j + 1)) := by
  rw [drop_cd hj, List.drop_of_length_le hi]; rfl
theorem nxtC (hi : i < X.length) (hj : j < Y.length) (hc : cd Y j < cd X i) : nxt sg (X.drop i) (Y.drop j) = ((cd X i, 0 + cf X i), X.drop (i + 1), Y.drop j) := by
  rw [drop_cd hi, drop_cd hj]
  simp only [nxt]
  rw [if_neg (by omega), if_pos hc]
theorem nxtD (hi : i < X.length) (hj : j < Y.length) (hc : cd X i = cd Y j) : nxt sg (X.drop i) (Y.drop j) = ((cd X i, 0 + cf X i + sg * cf Y j), X.drop (i + 1), Y.drop (j + 1)) := by
  rw [drop_cd hi, drop_cd hj]
  simp only [nxt]
  rw [if_pos hc]
theorem nxtE (hi : i < X.length) (hj : j < Y.length) (hc : cd X i < cd Y j) : nxt sg (X.drop i) (Y.drop j) = ((cd Y j, 0 + sg * cf Y j), X.drop i, Y.drop (j + 1)) := by
  rw [drop_cd hi, drop_cd hj]
  simp only [nxt]
  rw [if_neg (by omega), if_neg (by omega)]
theorem tsum_some {cap u b c : Nat} {k : Int} {acc L' X2 Y2 : PL} (hu : u < b) (hne : i < X.length ∨ j < Y.length) (hn : nxt sg (X.drop i) (Y.drop j) = ((c, k), X2, Y2)) (ha : app cap acc c k = some L') : tsum cap sg (b - u) acc (X.drop i) (Y.drop j) = tsum cap sg (b - (u + 1)) L' X2 Y2 := by
  rw [show b - u = (b - (u + 1)) + 1 by omega, tsum, if_neg (by rw [List.length_drop, List.length_drop]; omega), hn]
  simp [ha]
theorem tsum_none {cap u b c : Nat} {k : Int} {acc X2 Y2 : PL} (hu : u < b) (hne : i < X.length ∨ j < Y.length) (hn : nxt sg (X.drop i) (Y.drop j) = ((c, k), X2, Y2)) (ha : app cap acc c k = none) : tsum cap sg (b - u) acc (X.drop i) (Y.drop j) = none := by
  rw [show b - u = (b - (u + 1)) + 1 by omega, tsum, if_neg (by rw [List.length_drop, List.length_drop]; omega), hn]
  simp [ha]
theorem tsum_end {cap f : Nat} {acc : PL} (hi : X.length ≤ i) (hj : Y.length ≤ j) : tsum cap sg f acc (X.drop i) (Y.drop j) = some acc := by
  cases f with
  | zero => rfl
  | succ f => rw [tsum, if_pos (by rw [List.length_drop, List.length_drop]; omega)]
end NX

set_option maxHeartbeats 4000000 in
set_option maxRecDepth 100000 in
theorem kX1_takeTops {l : Launch} {G : Gx} {B : Nat} {w : Wm} {n : Nat} (t x y cap cx cy : Nat) (L X Y : PL) (tk : Int32) (tp : Nat → Int32) (ht : PolyC G w t cap L tk tp) (hx : PolyAt G w x cx X) (hy : PolyAt G w y cy Y) (htx : t + 4 ≤ x ∨ x + 4 ≤ t) (hty : t + 4 ≤ y ∨ y + 4 ≤ t) (hxy : (x = y ∧ cx = cy ∧ X = Y) ∨ x + 4 ≤ y ∨ y + 4 ≤ x) (okx : (∀ j, j < X.length → cd X j < 4611686018427387904)) (oky : (∀ j, j < Y.length → cd Y j < 4611686018427387904)) : Met l yX1_takeTops (wsM yX1_takeTops cX1_takeTops 4 (some .boolean)) ({ frames := 2, cells := 0, slots := 0, locals := 45 } : Room) (Pcx G B w n [.ref (t), .ref (x), .ref (y)]) (Qi G B (fun r w' n' => n' = n ∧ (∀ b, (b ≠ x ∧ b ≠ x + 3 ∧ b ≠ y ∧ b ≠ y + 3 ∧ b ≠ t ∧ b ≠ t + 3) → w' b = w b) ∧ PolyAt G w' x cx X ∧ PolyAt G w' y cy Y ∧ ((r = 1 ∧ (∀ u, u < 16 → top X u + top Y u ≤ 9) ∧ ∃ tq, PolyC G w' t cap L 1 tq ∧ ∀ u, u < 16 → tq u = nI (top X u + top Y u)) ∨ (r = 0 ∧ (∃ u, u < 16 ∧ 9 < top X u + top Y u) ∧ ∃ tq, PolyC G w' t cap L tk tq)))) 0 0 (FA B) := by
  refine en (by decide) (Nat.le_of_ble_eq_true rfl) ?_
  intro p ev s mm ag bl mt co S hr hlk hnm hK H hH ls hl
  have hl : lv_has ls 4 [(0, .ref (t)), (1, .ref (x)), (2, .ref (y))] := hl
  obtain ⟨kx, px, hx1, hx2⟩ := hx
  have hF : ∀ b, b ≠ x ∧ b ≠ x + 3 ∧ b ≠ y ∧ b ≠ y + 3 ∧ b ≠ t ∧ b ≠ t + 3 → w b = w b := fun _ _ => rfl
  refine lv_aload_n S.1 S.2.1 dX1_takeTops_0 rfl (lv_at hl 1 rfl) ?_
  refine ck_v (run_V (As := []) (rest := []) S hK hH (kX1_findTops x cx X kx px hx1 hx2 okx) ceX1_findTops mW180 hx1.ob rfl rfl hl.1 rfl (Nat.le_of_ble_eq_true rfl) dX1_takeTops_1 ⟨rfl, rfl, by decide, by decide⟩ ⟨show 0 + 0 ≤ 0 by omega, show 0 + 0 ≤ 0 by omega⟩) hH (fun w1 n1 H locs hp hH => ?_)
  obtain ⟨hn1, hfr, hq⟩ := hp
  rw [hn1] at hH
  obtain ⟨px1, hx1, hx2⟩ := hq
  have hy := hy.after hx1 hx2 hfr hxy
  have ht := ht.kept (fun b h1 h2 => hfr b (by omega))
  have hx : TopsAt G w1 x cx X := ⟨_, hx1, hx2⟩
  obtain ⟨ky, py, hy1, hy2⟩ := hy
  replace hF : ∀ b, b ≠ x ∧ b ≠ x + 3 ∧ b ≠ y ∧ b ≠ y + 3 ∧ b ≠ t ∧ b ≠ t + 3 → w1 b = w b := fun b hb => (hfr b (by omega)).trans (hF b hb)
  refine lv_aload_n S.1 S.2.1 dX1_takeTops_4 rfl (lv_at hl 2 rfl) ?_
  refine ck_v (run_V (As := []) (rest := []) S hK hH (kX1_findTops y cy Y ky py hy1 hy2 oky) ceX1_findTops mW180 hy1.ob rfl rfl hl.1 rfl (Nat.le_of_ble_eq_true rfl) dX1_takeTops_5 ⟨rfl, rfl, by decide, by decide⟩ ⟨show 0 + 0 ≤ 0 by omega, show 0 + 0 ≤ 0 by omega⟩) hH (fun w2 n2 H locs hp hH => ?_)
  obtain ⟨hn1, hfr, hq⟩ := hp
  rw [hn1] at hH
  obtain ⟨py1, hy1, hy2⟩ := hq
  have ht := ht.kept (fun b h1 h2 => hfr b (by omega))
  have hx := hx.after hy1 hy2 hfr hxy
  obtain ⟨tx, hx1, hx2⟩ := hx
  obtain ⟨f, g, h0, h1, h2, h3, h4, h5, h6, h7, h8⟩ := ht
  obtain ⟨fx, gx, hx0, hxa, hxb, hx3, hx4, hx5, hx6, hx7, hx8⟩ := hx1
  obtain ⟨fy, gy, hy0, hya, hyb, hy3, hy4, hy5, hy6, hy7, hy8⟩ := hy1
  replace hF : ∀ b, b ≠ x ∧ b ≠ x + 3 ∧ b ≠ y ∧ b ≠ y + 3 ∧ b ≠ t ∧ b ≠ t + 3 → w2 b = w b := fun b hb => (hfr b (by omega)).trans (hF b hb)
  refine lv_iconst (v := nI 0) S.1 S.2.1 dX1_takeTops_8 (by decide) ?_
  refine lv_istore_n (lv' := [(3, .int (nI 0)), (0, .ref (t)), (1, .ref (x)), (2, .ref (y))]) S.1 S.2.1 dX1_takeTops_9 rfl hl (by decide) rfl (fun ls hl => ?_)
  refine wlp (P := fun k_ ls H' locs' => ∃ (i : Nat) (tq : Nat → Int32) (v : Wm), lv_has ls 4 [(0, .ref (t)), (1, .ref (x)), (2, .ref (y)), (3, .int (nI i))] ∧ HS G B v (n) s H' locs' ∧ v (t) = some (eO 1 [.ref (t + 1), .ref (t + 2), .int (nI L.length), .ref (t + 3), .int (tk)]) ∧ v (t + 1) = some (eJ G (cap) (f)) ∧ v (t + 2) = some (eI G (cap) (g)) ∧ v (t + 3) = some (eI G (16) (tq)) ∧ v (x) = some (eO 1 [.ref (x + 1), .ref (x + 2), .int (nI X.length), .ref (x + 3), .int (1)]) ∧ v (x + 3) = some (eI G (16) (tx)) ∧ v (x + 1) = some (eJ G (cx) (fx)) ∧ v (x + 2) = some (eI G (cx) (gx)) ∧ v (y) = some (eO 1 [.ref (y + 1), .ref (y + 2), .int (nI Y.length), .ref (y + 3), .int (1)]) ∧ v (y + 3) = some (eI G (16) (py1)) ∧ v (y + 1) = some (eJ G (cy) (fy)) ∧ v (y + 2) = some (eI G (cy) (gy)) ∧ (∀ b, b ≠ x ∧ b ≠ x + 3 ∧ b ≠ y ∧ b ≠ y + 3 ∧ b ≠ t ∧ b ≠ t + 3 → v b = w b) ∧ (i ≤ 16) ∧ (∀ u, u < i → tq u = nI (top X u + top Y u) ∧ top X u + top Y u ≤ 9) ∧ k_ = 16 - i) ?_ (k0 := 16 - (0)) ⟨0, tp, w2, lv_sub hl [1, 2, 3, 0] rfl, hH, h0, h1, h2, h3, hx0, hx3, hxa, hxb, hy0, hy3, hya, hyb, hF, by omega, fun u h => absurd h (Nat.not_lt_zero u), rfl⟩
  intro k10 ls H locs hP ih10
  obtain ⟨i, tq, v, hl, hH, h0, h1, h2, h3, hx0, hx3, hxa, hxb, hy0, hy3, hya, hyb, hF, hi, hs, hk10⟩ := hP
  refine lv_iload_n S.1 S.2.1 dX1_takeTops_10 rfl (lv_at hl 3 rfl) ?_
  refine lv_bipush (v := nI 16) S.1 S.2.1 dX1_takeTops_11 (by decide) ?_
  refine bn_ge (tgt := 54) S dX1_takeTops_13 (by decide) (by omega) (fun c13 => ?_) (fun c13 => ?_)
  · skip
    refine lv_aload_n S.1 S.2.1 dX1_takeTops_54 rfl (lv_at hl 0 rfl) ?_
    refine lv_iconst (v := nI 1) S.1 S.2.1 dX1_takeTops_55 (by decide) ?_
    refine pfX1_35 S hK hH h0 (by decide) dX1_takeTops_56 (fun w3 H locs h0 fr hH => ?_)
    replace h1 := (fr (t + 1) (by omega)).trans h1
    replace h2 := (fr (t + 2) (by omega)).trans h2
    replace h3 := (fr (t + 3) (by omega)).trans h3
    replace hx0 := (fr (x) (by omega)).trans hx0
    replace hx3 := (fr (x + 3) (by omega)).trans hx3
    replace hxa := (fr (x + 1) (by omega)).trans hxa
    replace hxb := (fr (x + 2) (by omega)).trans hxb
    replace hy0 := (fr (y) (by omega)).trans hy0
    replace hy3 := (fr (y + 3) (by omega)).trans hy3
    replace hya := (fr (y + 1) (by omega)).trans hya
    replace hyb := (fr (y + 2) (by omega)).trans hyb
    replace hF : ∀ b, b ≠ x ∧ b ≠ x + 3 ∧ b ≠ y ∧ b ≠ y + 3 ∧ b ≠ t ∧ b ≠ t + 3 → w3 b = w b := fun b hb => (fr b (by omega)).trans (hF b hb)
    refine lv_iconst (v := nI 1) S.1 S.2.1 dX1_takeTops_59 (by decide) ?_
    have hxx : PolyAt G w3 x cx X := ⟨1, tx, ⟨fx, gx, hx0, hxa, hxb, hx3, hx4, hx5, hx6, hx7, hx8⟩, fun _ => hx2⟩
    have hyy : PolyAt G w3 y cy Y := ⟨1, py1, ⟨fy, gy, hy0, hya, hyb, hy3, hy4, hy5, hy6, hy7, hy8⟩, fun _ => hy2⟩
    exact rt_z S hr hlk hH dX1_takeTops_60 (by decide) (⟨rfl, hF, hxx, hyy, Or.inl ⟨rfl, fun u hu => (hs u (by omega)).2, _, ⟨f, g, h0, h1, h2, h3, h4, h5, h6, h7, Or.inr rfl⟩, fun u hu => (hs u (by omega)).1⟩⟩)
  · skip
    refine lv_aload_n S.1 S.2.1 dX1_takeTops_16 rfl (lv_at hl 0 rfl) ?_
    refine gfX1_32 S hK hH h0 dX1_takeTops_17 ?_
    refine lv_iload_n S.1 S.2.1 dX1_takeTops_20 rfl (lv_at hl 3 rfl) ?_
    refine lv_aload_n S.1 S.2.1 dX1_takeTops_21 rfl (lv_at hl 1 rfl) ?_
    refine gfX1_32 S hK hH hx0 dX1_takeTops_22 ?_
    refine lv_iload_n S.1 S.2.1 dX1_takeTops_25 rfl (lv_at hl 3 rfl) ?_
    refine ald_i S hK hH hx3 (by omega) (by omega) dX1_takeTops_26 ?_
    refine tpi (x' := nI (top X i)) (hx2 i c13) ?_
    refine lv_aload_n S.1 S.2.1 dX1_takeTops_27 rfl (lv_at hl 2 rfl) ?_
    refine gfX1_32 S hK hH hy0 dX1_takeTops_28 ?_
    refine lv_iload_n S.1 S.2.1 dX1_takeTops_31 rfl (lv_at hl 3 rfl) ?_
    refine ald_i S hK hH hy3 (by omega) (by omega) dX1_takeTops_32 ?_
    refine tpi (x' := nI (top Y i)) (hy2 i c13) ?_
    refine lv_iadd S.1 S.2.1 dX1_takeTops_33 ?_
    refine tpi (x' := nI (top X i + top Y i)) (nI_add _ _) ?_
    refine ast_i S hK hH h3 (by omega) (by omega) dX1_takeTops_34 (fun w4 H locs h3 fr hH => ?_)
    replace h0 := (fr (t) (by omega)).trans h0
    replace h1 := (fr (t + 1) (by omega)).trans h1
    replace h2 := (fr (t + 2) (by omega)).trans h2
    replace hx0 := (fr (x) (by omega)).trans hx0
    replace hx3 := (fr (x + 3) (by omega)).trans hx3
    replace hxa := (fr (x + 1) (by omega)).trans hxa
    replace hxb := (fr (x + 2) (by omega)).trans hxb
    replace hy0 := (fr (y) (by omega)).trans hy0
    replace hy3 := (fr (y + 3) (by omega)).trans hy3
    replace hya := (fr (y + 1) (by omega)).trans hya
    replace hyb := (fr (y + 2) (by omega)).trans hyb
    replace hF : ∀ b, b ≠ x ∧ b ≠ x + 3 ∧ b ≠ y ∧ b ≠ y + 3 ∧ b ≠ t ∧ b ≠ t + 3 → w4 b = w b := fun b hb => (fr b (by omega)).trans (hF b hb)
    refine lv_aload_n S.1 S.2.1 dX1_takeTops_35 rfl (lv_at hl 0 rfl) ?_
    refine gfX1_32 S hK hH h0 dX1_takeTops_36 ?_
    refine lv_iload_n S.1 S.2.1 dX1_takeTops_39 rfl (lv_at hl 3 rfl) ?_
    refine ald_i S hK hH h3 (by omega) (by omega) dX1_takeTops_40 ?_
    refine tpi (x' := nI (top X i + top Y i)) (pk_us) ?_
    refine lv_bipush (v := nI 9) S.1 S.2.1 dX1_takeTops_41 (by decide) ?_
    have hz1 := top_lt X i
    have hz2 := top_lt Y i
    refine bn_le (tgt := 48) S dX1_takeTops_43 (by decide) (by omega) (fun c43 => ?_) (fun c43 => ?_)
    · skip
      refine lv_iinc (v := nI (i + 1)) (lv' := [(3, .int (nI (i + 1))), (0, .ref (t)), (1, .ref (x)), (2, .ref (y))]) S.1 S.2.1 dX1_takeTops_48 hl (k := 3) rfl (nI_inc _ 1) (by decide) rfl (fun ls hl => ?_)
      refine lv_goto (tgt := 10) S.1 S.2.1 dX1_takeTops_51 (by decide) ?_
      exact ih10 _ _ _ _ (by omega) ⟨i + 1, _, w4, lv_sub hl [1, 2, 3, 0] rfl, hH, h0, h1, h2, h3, hx0, hx3, hxa, hxb, hy0, hy3, hya, hyb, hF, c13, lt_s (fun u h => by rw [pk_un (by omega)]; exact hs u h) ⟨pk_us, c43⟩, rfl⟩
    · skip
      refine lv_iconst (v := nI 0) S.1 S.2.1 dX1_takeTops_46 (by decide) ?_
      have hxx : PolyAt G w4 x cx X := ⟨1, tx, ⟨fx, gx, hx0, hxa, hxb, hx3, hx4, hx5, hx6, hx7, hx8⟩, fun _ => hx2⟩
      have hyy : PolyAt G w4 y cy Y := ⟨1, py1, ⟨fy, gy, hy0, hya, hyb, hy3, hy4, hy5, hy6, hy7, hy8⟩, fun _ => hy2⟩
      exact rt_z S hr hlk hH dX1_takeTops_47 (by decide) (⟨rfl, hF, hxx, hyy, Or.inr ⟨rfl, ⟨i, c13, c43⟩, _, f, g, h0, h1, h2, h3, h4, h5, h6, h7, h8⟩⟩)

set_option maxHeartbeats 4000000 in
set_option maxRecDepth 100000 in
theorem kX1_takeSum {l : Launch} {G : Gx} {B : Nat} {w : Wm} {n : Nat} (t x y cx cy : Nat) (L X Y : PL) (sg : Int) (tk kx ky : Int32) (tp px py : Nat → Int32) (ht : PolyC G w t 60 L tk tp) (hx : PolyC G w x cx X kx px) (hy : PolyC G w y cy Y ky py) (htx : t + 4 ≤ x ∨ x + 4 ≤ t) (hty : t + 4 ≤ y ∨ y + 4 ≤ t) (okx : (∀ j, j < X.length → cd X j < 4611686018427387904 ∧ -2147483648 ≤ cf X j ∧ cf X j < 2147483648)) (oky : (∀ j, j < Y.length → cd Y j < 4611686018427387904 ∧ -2147483648 ≤ cf Y j ∧ cf Y j < 2147483648)) (hsg : sg = 1 ∨ sg = -1) : Met l yX1_takeSum (wsM yX1_takeSum cX1_takeSum 14 (some .boolean)) ({ frames := 1, cells := 0, slots := 0, locals := 24 } : Room) (Pcx G B w n [.ref (t), .ref (x), .ref (y), .int (iI sg)]) (Qi G B (fun r w' n' => n' = n ∧ (∀ b, (b < t ∨ t + 3 ≤ b) → w' b = w b) ∧ ((r = 1 ∧ ∃ L', tsum 60 sg (X.length + Y.length) [] X Y = some L' ∧ PolyC G w' t 60 L' 0 tp) ∨ (r = 0 ∧ tsum 60 sg (X.length + Y.length) [] X Y = none ∧ ∃ L', PolyC G w' t 60 L' 0 tp)))) 0 0 (FA B) := by
  refine en (by decide) (Nat.le_of_ble_eq_true rfl) ?_
  intro p ev s mm ag bl mt co S hr hlk hnm hK H hH ls hl
  have hl : lv_has ls 14 [(0, .ref (t)), (1, .ref (x)), (2, .ref (y)), (3, .int (iI sg))] := hl
  obtain ⟨fx, gx, hx0, hxa, hxb, hx3, hx4, hx5, hx6, hx7, hx8⟩ := hx
  obtain ⟨fy, gy, hy0, hya, hyb, hy3, hy4, hy5, hy6, hy7, hy8⟩ := hy
  have hF : ∀ b, b < t ∨ t + 3 ≤ b → w b = w b := fun _ _ => rfl
  refine lv_aload_n S.1 S.2.1 dX1_takeSum_0 rfl (lv_at hl 0 rfl) ?_
  refine ck_v (run_V (As := []) (rest := []) S hK hH (kX1_clear t 60 L tk tp ht) ceX1_clear mW159 ht.ob rfl rfl hl.1 rfl (Nat.le_of_ble_eq_true rfl) dX1_takeSum_1 ⟨rfl, rfl, by decide, by decide⟩ ⟨show 0 + 0 ≤ 0 by omega, show 0 + 0 ≤ 0 by omega⟩) hH (fun w1 n1 H locs hp hH => ?_)
  obtain ⟨hn1, hfr, hpc⟩ := hp
  rw [hn1] at hH
  replace hx0 := (hfr (x) (by omega)).trans hx0
  replace hxa := (hfr (x + 1) (by omega)).trans hxa
  replace hxb := (hfr (x + 2) (by omega)).trans hxb
  replace hy0 := (hfr (y) (by omega)).trans hy0
  replace hya := (hfr (y + 1) (by omega)).trans hya
  replace hyb := (hfr (y + 2) (by omega)).trans hyb
  replace hF : ∀ b, b < t ∨ t + 3 ≤ b → w1 b = w b := fun b hb => (hfr b (by omega)).trans (hF b hb)
  refine lv_iconst (v := nI 0) S.1 S.2.1 dX1_takeSum_4 (by decide) ?_
  refine lv_istore (lv' := [(4, .int (nI 0)), (0, .ref (t)), (1, .ref (x)), (2, .ref (y)), (3, .int (iI sg))]) S.1 S.2.1 dX1_takeSum_5 hl (by decide) rfl (fun ls hl => ?_)
  refine lv_iconst (v := nI 0) S.1 S.2.1 dX1_takeSum_7 (by decide) ?_
  refine lv_istore (lv' := [(5, .int (nI 0)), (4, .int (nI 0)), (0, .ref (t)), (1, .ref (x)), (2, .ref (y)), (3, .int (iI sg))]) S.1 S.2.1 dX1_takeSum_8 hl (by decide) rfl (fun ls hl => ?_)
  refine lv_aload_n S.1 S.2.1 dX1_takeSum_10 rfl (lv_at hl 3 rfl) ?_
  refine gfX1_28 S hK hH hx0 dX1_takeSum_11 ?_
  refine lv_aload_n S.1 S.2.1 dX1_takeSum_14 rfl (lv_at hl 4 rfl) ?_
  refine gfX1_28 S hK hH hy0 dX1_takeSum_15 ?_
  refine lv_iadd S.1 S.2.1 dX1_takeSum_18 ?_
  refine tpi (x' := nI (X.length + Y.length)) (nI_add _ _) ?_
  refine lv_istore (lv' := [(6, .int (nI (X.length + Y.length))), (5, .int (nI 0)), (4, .int (nI 0)), (0, .ref (t)), (1, .ref (x)), (2, .ref (y)), (3, .int (iI sg))]) S.1 S.2.1 dX1_takeSum_19 hl (by decide) rfl (fun ls hl => ?_)
  refine lv_iconst (v := nI 0) S.1 S.2.1 dX1_takeSum_21 (by decide) ?_
  refine lv_istore (lv' := [(7, .int (nI 0)), (6, .int (nI (X.length + Y.length))), (5, .int (nI 0)), (4, .int (nI 0)), (0, .ref (t)), (1, .ref (x)), (2, .ref (y)), (3, .int (iI sg))]) S.1 S.2.1 dX1_takeSum_22 hl (by decide) rfl (fun ls hl => ?_)
  refine wlp (P := fun k_ ls H' locs' => ∃ (u i j : Nat) (acc : PL) (v : Wm), lv_has ls 14 [(0, .ref (t)), (1, .ref (x)), (2, .ref (y)), (3, .int (iI sg)), (4, .int (nI i)), (5, .int (nI j)), (6, .int (nI (X.length + Y.length))), (7, .int (nI u))] ∧ HS G B v (n) s H' locs' ∧ v (x) = some (eO 1 [.ref (x + 1), .ref (x + 2), .int (nI X.length), .ref (x + 3), .int (kx)]) ∧ v (x + 1) = some (eJ G (cx) (fx)) ∧ v (x + 2) = some (eI G (cx) (gx)) ∧ v (y) = some (eO 1 [.ref (y + 1), .ref (y + 2), .int (nI Y.length), .ref (y + 3), .int (ky)]) ∧ v (y + 1) = some (eJ G (cy) (fy)) ∧ v (y + 2) = some (eI G (cy) (gy)) ∧ (PolyC G v t 60 acc 0 tp) ∧ (∀ b, b < t ∨ t + 3 ≤ b → v b = w b) ∧ (u ≤ X.length + Y.length) ∧ (i ≤ X.length) ∧ (j ≤ Y.length) ∧ (tsum 60 sg (X.length + Y.length) [] X Y = tsum 60 sg (X.length + Y.length - u) acc (X.drop i) (Y.drop j)) ∧ k_ = X.length + Y.length - u) ?_ (k0 := X.length + Y.length - (0)) ⟨0, 0, 0, [], w1, lv_sub hl [4, 5, 6, 7, 3, 2, 1, 0] rfl, hH, hx0, hxa, hxb, hy0, hya, hyb, hpc, hF, by omega, by omega, by omega, rfl, rfl⟩
  intro k24 ls H locs hP ih24
  obtain ⟨u, i, j, acc, v, hl, hH, hx0, hxa, hxb, hy0, hya, hyb, hpc, hF, hu, hi0, hj0, hts, hk24⟩ := hP
  refine lv_iload S.1 S.2.1 dX1_takeSum_24 (lv_at hl 7 rfl) ?_
  refine lv_iload S.1 S.2.1 dX1_takeSum_26 (lv_at hl 6 rfl) ?_
  refine bn_ge (tgt := 226) S dX1_takeSum_28 (by decide) (by omega) (fun c28 => ?_) (fun c28 => ?_)
  · skip
    refine lv_iconst (v := nI 1) S.1 S.2.1 dX1_takeSum_226 (by decide) ?_
    exact rt_z S hr hlk hH dX1_takeSum_227 (by decide) (⟨rfl, hF, Or.inl ⟨rfl, acc, by rw [hts, show X.length + Y.length - u = 0 by omega]; rfl, hpc⟩⟩)
  · skip
    refine lv_iload S.1 S.2.1 dX1_takeSum_31 (lv_at hl 4 rfl) ?_
    refine lv_aload_n S.1 S.2.1 dX1_takeSum_33 rfl (lv_at hl 1 rfl) ?_
    refine gfX1_28 S hK hH hx0 dX1_takeSum_34 ?_
    refine bn_lt (tgt := 49) S dX1_takeSum_37 (by decide) (by omega) (fun c37 => ?_) (fun c37 => ?_)
    · skip
      rcases ts_cases (X := X) (Y := Y) (i := i) (j := j) (by omega) with ⟨hi, hj⟩ | ⟨hi, hj⟩ | ⟨hi, hj, hc⟩ | ⟨hi, hj, hc⟩ | ⟨hi, hj, hc⟩
      · skip
        have hbx := okx i hi
        refine lv_iload S.1 S.2.1 dX1_takeSum_49 (lv_at hl 4 rfl) ?_
        refine lv_aload_n S.1 S.2.1 dX1_takeSum_51 rfl (lv_at hl 1 rfl) ?_
        refine gfX1_28 S hK hH hx0 dX1_takeSum_52 ?_
        refine bn_ge (tgt := 89) S dX1_takeSum_55 (by decide) (by omega) (fun c55 => ?_) (fun c55 => ?_)
        · skip
          exfalso; omega
        · skip
          refine lv_iload S.1 S.2.1 dX1_takeSum_58 (lv_at hl 5 rfl) ?_
          refine lv_aload_n S.1 S.2.1 dX1_takeSum_60 rfl (lv_at hl 2 rfl) ?_
          refine gfX1_28 S hK hH hy0 dX1_takeSum_61 ?_
          refine bn_ge (tgt := 85) S dX1_takeSum_64 (by decide) (by omega) (fun c64 => ?_) (fun c64 => ?_)
          · skip
            refine lv_iconst (v := nI 1) S.1 S.2.1 dX1_takeSum_85 (by decide) ?_
            refine lv_goto (tgt := 90) S.1 S.2.1 dX1_takeSum_86 (by decide) ?_
            refine lv_istore (lv' := [(8, .int (nI 1)), (0, .ref (t)), (1, .ref (x)), (2, .ref (y)), (3, .int (iI sg)), (4, .int (nI i)), (5, .int (nI j)), (6, .int (nI (X.length + Y.length))), (7, .int (nI u))]) S.1 S.2.1 dX1_takeSum_90 hl (by decide) rfl (fun ls hl => ?_)
            refine lv_iload S.1 S.2.1 dX1_takeSum_92 (lv_at hl 6 rfl) ?_
            refine lv_aload_n S.1 S.2.1 dX1_takeSum_94 rfl (lv_at hl 3 rfl) ?_
            refine gfX1_28 S hK hH hy0 dX1_takeSum_95 ?_
            refine bn_ge (tgt := 132) S dX1_takeSum_98 (by decide) (by omega) (fun c98 => ?_) (fun c98 => ?_)
            · skip
              refine lv_iconst (v := nI 0) S.1 S.2.1 dX1_takeSum_132 (by decide) ?_
              refine lv_istore (lv' := [(9, .int (nI 0)), (8, .int (nI 1)), (0, .ref (t)), (1, .ref (x)), (2, .ref (y)), (3, .int (iI sg)), (4, .int (nI i)), (5, .int (nI j)), (6, .int (nI (X.length + Y.length))), (7, .int (nI u))]) S.1 S.2.1 dX1_takeSum_133 hl (by decide) rfl (fun ls hl => ?_)
              refine lv_iload S.1 S.2.1 dX1_takeSum_135 (lv_at hl 1 rfl) ?_
              refine lv_if_eq (tgt := 150) S.1 S.2.1 dX1_takeSum_137 (by decide) (fun c137 => ?_) (fun c137 => ?_)
              · skip
                first | exact absurd c137 (by decide) | exact absurd rfl c137
              · skip
                refine lv_aload_n S.1 S.2.1 dX1_takeSum_140 rfl (lv_at hl 3 rfl) ?_
                refine gfX1_18 S hK hH hx0 dX1_takeSum_141 ?_
                refine lv_iload S.1 S.2.1 dX1_takeSum_144 (lv_at hl 6 rfl) ?_
                refine ald_l S hK hH hxa (by omega) (by omega) dX1_takeSum_146 ?_
                refine tpl (x' := lN (cd X i)) (hx6 i hi) ?_
                refine lv_goto (tgt := 157) S.1 S.2.1 dX1_takeSum_147 (by decide) ?_
                refine lv_lstore (lv' := [(10, .long (lN (cd X i))), (9, .int (nI 0)), (8, .int (nI 1)), (0, .ref (t)), (1, .ref (x)), (2, .ref (y)), (3, .int (iI sg)), (4, .int (nI i)), (5, .int (nI j)), (6, .int (nI (X.length + Y.length))), (7, .int (nI u))]) S.1 S.2.1 dX1_takeSum_157 hl (by decide) rfl (fun ls hl => ?_)
                refine lv_lconst (v := lI 0) S.1 S.2.1 dX1_takeSum_159 (by decide) ?_
                refine lv_lstore (lv' := [(12, .long (lI 0)), (10, .long (lN (cd X i))), (9, .int (nI 0)), (8, .int (nI 1)), (0, .ref (t)), (1, .ref (x)), (2, .ref (y)), (3, .int (iI sg)), (4, .int (nI i)), (5, .int (nI j)), (6, .int (nI (X.length + Y.length))), (7, .int (nI u))]) S.1 S.2.1 dX1_takeSum_160 hl (by decide) rfl (fun ls hl => ?_)
                refine lv_iload S.1 S.2.1 dX1_takeSum_162 (lv_at hl 3 rfl) ?_
                refine lv_if_eq (tgt := 183) S.1 S.2.1 dX1_takeSum_164 (by decide) (fun c164 => ?_) (fun c164 => ?_)
                · skip
                  first | exact absurd c164 (by decide) | exact absurd rfl c164
                · skip
                  refine lv_lload S.1 S.2.1 dX1_takeSum_167 (lv_at hl 0 rfl) ?_
                  refine lv_aload_n S.1 S.2.1 dX1_takeSum_169 rfl (lv_at hl 5 rfl) ?_
                  refine gfX1_24 S hK hH hx0 dX1_takeSum_170 ?_
                  refine lv_iload S.1 S.2.1 dX1_takeSum_173 (lv_at hl 8 rfl) ?_
                  refine ald_i S hK hH hxb (by omega) (by omega) dX1_takeSum_175 ?_
                  refine tpi (x' := iI (cf X i)) (hx7 i hi) ?_
                  refine lv_i2l (v := lI (cf X i)) S.1 S.2.1 dX1_takeSum_176 (iI_l (by omega)) ?_
                  refine lv_ladd S.1 S.2.1 dX1_takeSum_177 ?_
                  refine tpl (x' := lI ((0) + (cf X i))) (lI_add _ _) ?_
                  refine lv_lstore (lv' := [(12, .long (lI ((0) + (cf X i)))), (10, .long (lN (cd X i))), (9, .int (nI 0)), (8, .int (nI 1)), (0, .ref (t)), (1, .ref (x)), (2, .ref (y)), (3, .int (iI sg)), (4, .int (nI i)), (5, .int (nI j)), (6, .int (nI (X.length + Y.length))), (7, .int (nI u))]) S.1 S.2.1 dX1_takeSum_178 hl (by decide) rfl (fun ls hl => ?_)
                  refine lv_iinc (v := nI (i + 1)) (lv' := [(4, .int (nI (i + 1))), (12, .long (lI ((0) + (cf X i)))), (10, .long (lN (cd X i))), (9, .int (nI 0)), (8, .int (nI 1)), (0, .ref (t)), (1, .ref (x)), (2, .ref (y)), (3, .int (iI sg)), (5, .int (nI j)), (6, .int (nI (X.length + Y.length))), (7, .int (nI u))]) S.1 S.2.1 dX1_takeSum_180 hl (k := 8) rfl (nI_inc _ 1) (by decide) rfl (fun ls hl => ?_)
                  refine lv_iload S.1 S.2.1 dX1_takeSum_183 (lv_at hl 3 rfl) ?_
                  refine lv_if_eq (tgt := 207) S.1 S.2.1 dX1_takeSum_185 (by decide) (fun c185 => ?_) (fun c185 => ?_)
                  · skip
                    refine lv_aload_n S.1 S.2.1 dX1_takeSum_207 rfl (lv_at hl 5 rfl) ?_
                    refine lv_lload S.1 S.2.1 dX1_takeSum_208 (lv_at hl 2 rfl) ?_
                    refine lv_lload S.1 S.2.1 dX1_takeSum_210 (lv_at hl 1 rfl) ?_
                    refine ck_i (run_V (As := [.long (lN (cd X i)), .long (lI ((0) + (cf X i)))]) (rest := []) S hK hH (kX1_append t 60 (cd X i) acc ((0) + (cf X i)) 0 tp hpc (by omega)) ceX1_append mW130 hpc.ob rfl rfl hl.1 rfl (Nat.le_of_ble_eq_true rfl) dX1_takeSum_212 ⟨rfl, rfl, by decide, by decide⟩ ⟨show 0 + 0 ≤ 0 by omega, show 0 + 0 ≤ 0 by omega⟩) hH (fun r212 w2 n2 H locs hp hH => ?_)
                    obtain ⟨hn1, hfr, hq⟩ := hp
                    rw [hn1] at hH
                    replace hx0 := (hfr (x) (by omega)).trans hx0
                    replace hxa := (hfr (x + 1) (by omega)).trans hxa
                    replace hxb := (hfr (x + 2) (by omega)).trans hxb
                    replace hy0 := (hfr (y) (by omega)).trans hy0
                    replace hya := (hfr (y + 1) (by omega)).trans hya
                    replace hyb := (hfr (y + 2) (by omega)).trans hyb
                    replace hF : ∀ b, b < t ∨ t + 3 ≤ b → w2 b = w b := fun b hb => (hfr b (by omega)).trans (hF b hb)
                    refine lv_if_ne (tgt := 220) S.1 S.2.1 dX1_takeSum_215 (by decide) (fun c215 => ?_) (fun c215 => ?_)
                    · skip
                      rcases hq with ⟨_, L', e1, hpc⟩ | ⟨e1, _⟩
                      rotate_left
                      · exact absurd e1 c215
                      refine lv_iinc (v := nI (u + 1)) (lv' := [(7, .int (nI (u + 1))), (4, .int (nI (i + 1))), (12, .long (lI ((0) + (cf X i)))), (10, .long (lN (cd X i))), (9, .int (nI 0)), (8, .int (nI 1)), (0, .ref (t)), (1, .ref (x)), (2, .ref (y)), (3, .int (iI sg)), (5, .int (nI j)), (6, .int (nI (X.length + Y.length)))]) S.1 S.2.1 dX1_takeSum_220 hl (k := 11) rfl (nI_inc _ 1) (by decide) rfl (fun ls hl => ?_)
                      refine lv_goto (tgt := 24) S.1 S.2.1 dX1_takeSum_223 (by decide) ?_
                      exact ih24 _ _ _ _ (by omega) ⟨u + 1, i + 1, j, L', w2, lv_sub hl [6, 7, 8, 9, 1, 10, 11, 0] rfl, hH, hx0, hxa, hxb, hy0, hya, hyb, hpc, hF, by omega, by omega, by omega, hts.trans (tsum_some c28 (by omega) (nxtA hi hj) e1), rfl⟩
                    · skip
                      rcases hq with ⟨e1, _⟩ | ⟨_, e1, e2⟩
                      · rw [e1] at c215; exact absurd c215 (by decide)
                      refine lv_iconst (v := nI 0) S.1 S.2.1 dX1_takeSum_218 (by decide) ?_
                      rw [← e2] at hpc
                      exact rt_z S hr hlk hH dX1_takeSum_219 (by decide) (⟨rfl, hF, Or.inr ⟨rfl, hts.trans (tsum_none c28 (by omega) (nxtA hi hj) e1), acc, hpc⟩⟩)
                  · skip
                    first | exact absurd c185 (by decide) | exact absurd rfl c185
            · skip
              exfalso; omega
          · skip
            exfalso; omega
      · skip
        have hby := oky j hj
        have hbs := sg_b hsg hby.2
        refine lv_iload S.1 S.2.1 dX1_takeSum_49 (lv_at hl 4 rfl) ?_
        refine lv_aload_n S.1 S.2.1 dX1_takeSum_51 rfl (lv_at hl 1 rfl) ?_
        refine gfX1_28 S hK hH hx0 dX1_takeSum_52 ?_
        refine bn_ge (tgt := 89) S dX1_takeSum_55 (by decide) (by omega) (fun c55 => ?_) (fun c55 => ?_)
        · skip
          refine lv_iconst (v := nI 0) S.1 S.2.1 dX1_takeSum_89 (by decide) ?_
          refine lv_istore (lv' := [(8, .int (nI 0)), (0, .ref (t)), (1, .ref (x)), (2, .ref (y)), (3, .int (iI sg)), (4, .int (nI i)), (5, .int (nI j)), (6, .int (nI (X.length + Y.length))), (7, .int (nI u))]) S.1 S.2.1 dX1_takeSum_90 hl (by decide) rfl (fun ls hl => ?_)
          refine lv_iload S.1 S.2.1 dX1_takeSum_92 (lv_at hl 6 rfl) ?_
          refine lv_aload_n S.1 S.2.1 dX1_takeSum_94 rfl (lv_at hl 3 rfl) ?_
          refine gfX1_28 S hK hH hy0 dX1_takeSum_95 ?_
          refine bn_ge (tgt := 132) S dX1_takeSum_98 (by decide) (by omega) (fun c98 => ?_) (fun c98 => ?_)
          · skip
            exfalso; omega
          · skip
            refine lv_iload S.1 S.2.1 dX1_takeSum_101 (lv_at hl 5 rfl) ?_
            refine lv_aload_n S.1 S.2.1 dX1_takeSum_103 rfl (lv_at hl 2 rfl) ?_
            refine gfX1_28 S hK hH hx0 dX1_takeSum_104 ?_
            refine bn_ge (tgt := 128) S dX1_takeSum_107 (by decide) (by omega) (fun c107 => ?_) (fun c107 => ?_)
            · skip
              refine lv_iconst (v := nI 1) S.1 S.2.1 dX1_takeSum_128 (by decide) ?_
              refine lv_goto (tgt := 133) S.1 S.2.1 dX1_takeSum_129 (by decide) ?_
              refine lv_istore (lv' := [(9, .int (nI 1)), (8, .int (nI 0)), (0, .ref (t)), (1, .ref (x)), (2, .ref (y)), (3, .int (iI sg)), (4, .int (nI i)), (5, .int (nI j)), (6, .int (nI (X.length + Y.length))), (7, .int (nI u))]) S.1 S.2.1 dX1_takeSum_133 hl (by decide) rfl (fun ls hl => ?_)
              refine lv_iload S.1 S.2.1 dX1_takeSum_135 (lv_at hl 1 rfl) ?_
              refine lv_if_eq (tgt := 150) S.1 S.2.1 dX1_takeSum_137 (by decide) (fun c137 => ?_) (fun c137 => ?_)
              · skip
                refine lv_aload_n S.1 S.2.1 dX1_takeSum_150 rfl (lv_at hl 4 rfl) ?_
                refine gfX1_18 S hK hH hy0 dX1_takeSum_151 ?_
                refine lv_iload S.1 S.2.1 dX1_takeSum_154 (lv_at hl 7 rfl) ?_
                refine ald_l S hK hH hya (by omega) (by omega) dX1_takeSum_156 ?_
                refine tpl (x' := lN (cd Y j)) (hy6 j hj) ?_
                refine lv_lstore (lv' := [(10, .long (lN (cd Y j))), (9, .int (nI 1)), (8, .int (nI 0)), (0, .ref (t)), (1, .ref (x)), (2, .ref (y)), (3, .int (iI sg)), (4, .int (nI i)), (5, .int (nI j)), (6, .int (nI (X.length + Y.length))), (7, .int (nI u))]) S.1 S.2.1 dX1_takeSum_157 hl (by decide) rfl (fun ls hl => ?_)
                refine lv_lconst (v := lI 0) S.1 S.2.1 dX1_takeSum_159 (by decide) ?_
                refine lv_lstore (lv' := [(12, .long (lI 0)), (10, .long (lN (cd Y j))), (9, .int (nI 1)), (8, .int (nI 0)), (0, .ref (t)), (1, .ref (x)), (2, .ref (y)), (3, .int (iI sg)), (4, .int (nI i)), (5, .int (nI j)), (6, .int (nI (X.length + Y.length))), (7, .int (nI u))]) S.1 S.2.1 dX1_takeSum_160 hl (by decide) rfl (fun ls hl => ?_)
                refine lv_iload S.1 S.2.1 dX1_takeSum_162 (lv_at hl 3 rfl) ?_
                refine lv_if_eq (tgt := 183) S.1 S.2.1 dX1_takeSum_164 (by decide) (fun c164 => ?_) (fun c164 => ?_)
                · skip
                  refine lv_iload S.1 S.2.1 dX1_takeSum_183 (lv_at hl 2 rfl) ?_
                  refine lv_if_eq (tgt := 207) S.1 S.2.1 dX1_takeSum_185 (by decide) (fun c185 => ?_) (fun c185 => ?_)
                  · skip
                    first | exact absurd c185 (by decide) | exact absurd rfl c185
                  · skip
                    refine lv_lload S.1 S.2.1 dX1_takeSum_188 (lv_at hl 0 rfl) ?_
                    refine lv_iload_n S.1 S.2.1 dX1_takeSum_190 rfl (lv_at hl 7 rfl) ?_
                    refine lv_i2l (v := lI (sg)) S.1 S.2.1 dX1_takeSum_191 (iI_l (by omega)) ?_
                    refine lv_aload_n S.1 S.2.1 dX1_takeSum_192 rfl (lv_at hl 6 rfl) ?_
                    refine gfX1_24 S hK hH hy0 dX1_takeSum_193 ?_
                    refine lv_iload S.1 S.2.1 dX1_takeSum_196 (lv_at hl 9 rfl) ?_
                    refine ald_i S hK hH hyb (by omega) (by omega) dX1_takeSum_198 ?_
                    refine tpi (x' := iI (cf Y j)) (hy7 j hj) ?_
                    refine lv_i2l (v := lI (cf Y j)) S.1 S.2.1 dX1_takeSum_199 (iI_l (by omega)) ?_
                    refine lv_lmul S.1 S.2.1 dX1_takeSum_200 ?_
                    refine tpl (x' := lI ((sg) * (cf Y j))) (lI_mul _ _) ?_
                    refine lv_ladd S.1 S.2.1 dX1_takeSum_201 ?_
                    refine tpl (x' := lI ((0) + ((sg) * (cf Y j)))) (lI_add _ _) ?_
                    refine lv_lstore (lv' := [(12, .long (lI ((0) + ((sg) * (cf Y j))))), (10, .long (lN (cd Y j))), (9, .int (nI 1)), (8, .int (nI 0)), (0, .ref (t)), (1, .ref (x)), (2, .ref (y)), (3, .int (iI sg)), (4, .int (nI i)), (5, .int (nI j)), (6, .int (nI (X.length + Y.length))), (7, .int (nI u))]) S.1 S.2.1 dX1_takeSum_202 hl (by decide) rfl (fun ls hl => ?_)
                    refine lv_iinc (v := nI (j + 1)) (lv' := [(5, .int (nI (j + 1))), (12, .long (lI ((0) + ((sg) * (cf Y j))))), (10, .long (lN (cd Y j))), (9, .int (nI 1)), (8, .int (nI 0)), (0, .ref (t)), (1, .ref (x)), (2, .ref (y)), (3, .int (iI sg)), (4, .int (nI i)), (6, .int (nI (X.length + Y.length))), (7, .int (nI u))]) S.1 S.2.1 dX1_takeSum_204 hl (k := 9) rfl (nI_inc _ 1) (by decide) rfl (fun ls hl => ?_)
                    refine lv_aload_n S.1 S.2.1 dX1_takeSum_207 rfl (lv_at hl 5 rfl) ?_
                    refine lv_lload S.1 S.2.1 dX1_takeSum_208 (lv_at hl 2 rfl) ?_
                    refine lv_lload S.1 S.2.1 dX1_takeSum_210 (lv_at hl 1 rfl) ?_
                    refine ck_i (run_V (As := [.long (lN (cd Y j)), .long (lI ((0) + ((sg) * (cf Y j))))]) (rest := []) S hK hH (kX1_append t 60 (cd Y j) acc ((0) + ((sg) * (cf Y j))) 0 tp hpc (by omega)) ceX1_append mW130 hpc.ob rfl rfl hl.1 rfl (Nat.le_of_ble_eq_true rfl) dX1_takeSum_212 ⟨rfl, rfl, by decide, by decide⟩ ⟨show 0 + 0 ≤ 0 by omega, show 0 + 0 ≤ 0 by omega⟩) hH (fun r212 w3 n3 H locs hp hH => ?_)
                    obtain ⟨hn1, hfr, hq⟩ := hp
                    rw [hn1] at hH
                    replace hx0 := (hfr (x) (by omega)).trans hx0
                    replace hxa := (hfr (x + 1) (by omega)).trans hxa
                    replace hxb := (hfr (x + 2) (by omega)).trans hxb
                    replace hy0 := (hfr (y) (by omega)).trans hy0
                    replace hya := (hfr (y + 1) (by omega)).trans hya
                    replace hyb := (hfr (y + 2) (by omega)).trans hyb
                    replace hF : ∀ b, b < t ∨ t + 3 ≤ b → w3 b = w b := fun b hb => (hfr b (by omega)).trans (hF b hb)
                    refine lv_if_ne (tgt := 220) S.1 S.2.1 dX1_takeSum_215 (by decide) (fun c215 => ?_) (fun c215 => ?_)
                    · skip
                      rcases hq with ⟨_, L', e1, hpc⟩ | ⟨e1, _⟩
                      rotate_left
                      · exact absurd e1 c215
                      refine lv_iinc (v := nI (u + 1)) (lv' := [(7, .int (nI (u + 1))), (5, .int (nI (j + 1))), (12, .long (lI ((0) + ((sg) * (cf Y j))))), (10, .long (lN (cd Y j))), (9, .int (nI 1)), (8, .int (nI 0)), (0, .ref (t)), (1, .ref (x)), (2, .ref (y)), (3, .int (iI sg)), (4, .int (nI i)), (6, .int (nI (X.length + Y.length)))]) S.1 S.2.1 dX1_takeSum_220 hl (k := 11) rfl (nI_inc _ 1) (by decide) rfl (fun ls hl => ?_)
                      refine lv_goto (tgt := 24) S.1 S.2.1 dX1_takeSum_223 (by decide) ?_
                      exact ih24 _ _ _ _ (by omega) ⟨u + 1, i, j + 1, L', w3, lv_sub hl [6, 7, 8, 9, 10, 1, 11, 0] rfl, hH, hx0, hxa, hxb, hy0, hya, hyb, hpc, hF, by omega, by omega, by omega, hts.trans (tsum_some c28 (by omega) (nxtB hi hj) e1), rfl⟩
                    · skip
                      rcases hq with ⟨e1, _⟩ | ⟨_, e1, e2⟩
                      · rw [e1] at c215; exact absurd c215 (by decide)
                      refine lv_iconst (v := nI 0) S.1 S.2.1 dX1_takeSum_218 (by decide) ?_
                      rw [← e2] at hpc
                      exact rt_z S hr hlk hH dX1_takeSum_219 (by decide) (⟨rfl, hF, Or.inr ⟨rfl, hts.trans (tsum_none c28 (by omega) (nxtB hi hj) e1), acc, hpc⟩⟩)
                · skip
                  first | exact absurd c164 (by decide) | exact absurd rfl c164
              · skip
                first | exact absurd c137 (by decide) | exact absurd rfl c137
            · skip
              exfalso; omega
        · skip
          exfalso; omega
      · skip
        have hbx := okx i hi
        have hby := oky j hj
        refine lv_iload S.1 S.2.1 dX1_takeSum_49 (lv_at hl 4 rfl) ?_
        refine lv_aload_n S.1 S.2.1 dX1_takeSum_51 rfl (lv_at hl 1 rfl) ?_
        refine gfX1_28 S hK hH hx0 dX1_takeSum_52 ?_
        refine bn_ge (tgt := 89) S dX1_takeSum_55 (by decide) (by omega) (fun c55 => ?_) (fun c55 => ?_)
        · skip
          exfalso; omega
        · skip
          refine lv_iload S.1 S.2.1 dX1_takeSum_58 (lv_at hl 5 rfl) ?_
          refine lv_aload_n S.1 S.2.1 dX1_takeSum_60 rfl (lv_at hl 2 rfl) ?_
          refine gfX1_28 S hK hH hy0 dX1_takeSum_61 ?_
          refine bn_ge (tgt := 85) S dX1_takeSum_64 (by decide) (by omega) (fun c64 => ?_) (fun c64 => ?_)
          · skip
            exfalso; omega
          · skip
            refine lv_aload_n S.1 S.2.1 dX1_takeSum_67 rfl (lv_at hl 1 rfl) ?_
            refine gfX1_18 S hK hH hx0 dX1_takeSum_68 ?_
            refine lv_iload S.1 S.2.1 dX1_takeSum_71 (lv_at hl 4 rfl) ?_
            refine ald_l S hK hH hxa (by omega) (by omega) dX1_takeSum_73 ?_
            refine tpl (x' := lN (cd X i)) (hx6 i hi) ?_
            refine lv_aload_n S.1 S.2.1 dX1_takeSum_74 rfl (lv_at hl 2 rfl) ?_
            refine gfX1_18 S hK hH hy0 dX1_takeSum_75 ?_
            refine lv_iload S.1 S.2.1 dX1_takeSum_78 (lv_at hl 5 rfl) ?_
            refine ald_l S hK hH hya (by omega) (by omega) dX1_takeSum_80 ?_
            refine tpl (x' := lN (cd Y j)) (hy6 j hj) ?_
            refine bl_lt (tgt := 89) S dX1_takeSum_81 dX1_takeSum_82 (by decide) (fun c81 => ?_) (fun c81 => ?_)
            · skip
              exfalso; rw [pk_lLT (by omega) (by omega)] at c81; omega
            · skip
              refine lv_iconst (v := nI 1) S.1 S.2.1 dX1_takeSum_85 (by decide) ?_
              refine lv_goto (tgt := 90) S.1 S.2.1 dX1_takeSum_86 (by decide) ?_
              refine lv_istore (lv' := [(8, .int (nI 1)), (0, .ref (t)), (1, .ref (x)), (2, .ref (y)), (3, .int (iI sg)), (4, .int (nI i)), (5, .int (nI j)), (6, .int (nI (X.length + Y.length))), (7, .int (nI u))]) S.1 S.2.1 dX1_takeSum_90 hl (by decide) rfl (fun ls hl => ?_)
              refine lv_iload S.1 S.2.1 dX1_takeSum_92 (lv_at hl 6 rfl) ?_
              refine lv_aload_n S.1 S.2.1 dX1_takeSum_94 rfl (lv_at hl 3 rfl) ?_
              refine gfX1_28 S hK hH hy0 dX1_takeSum_95 ?_
              refine bn_ge (tgt := 132) S dX1_takeSum_98 (by decide) (by omega) (fun c98 => ?_) (fun c98 => ?_)
              · skip
                exfalso; omega
              · skip
                refine lv_iload S.1 S.2.1 dX1_takeSum_101 (lv_at hl 5 rfl) ?_
                refine lv_aload_n S.1 S.2.1 dX1_takeSum_103 rfl (lv_at hl 2 rfl) ?_
                refine gfX1_28 S hK hH hx0 dX1_takeSum_104 ?_
                refine bn_ge (tgt := 128) S dX1_takeSum_107 (by decide) (by omega) (fun c107 => ?_) (fun c107 => ?_)
                · skip
                  exfalso; omega
                · skip
                  refine lv_aload_n S.1 S.2.1 dX1_takeSum_110 rfl (lv_at hl 3 rfl) ?_
                  refine gfX1_18 S hK hH hy0 dX1_takeSum_111 ?_
                  refine lv_iload S.1 S.2.1 dX1_takeSum_114 (lv_at hl 6 rfl) ?_
                  refine ald_l S hK hH hya (by omega) (by omega) dX1_takeSum_116 ?_
                  refine tpl (x' := lN (cd Y j)) (hy6 j hj) ?_
                  refine lv_aload_n S.1 S.2.1 dX1_takeSum_117 rfl (lv_at hl 2 rfl) ?_
                  refine gfX1_18 S hK hH hx0 dX1_takeSum_118 ?_
                  refine lv_iload S.1 S.2.1 dX1_takeSum_121 (lv_at hl 5 rfl) ?_
                  refine ald_l S hK hH hxa (by omega) (by omega) dX1_takeSum_123 ?_
                  refine tpl (x' := lN (cd X i)) (hx6 i hi) ?_
                  refine bl_lt (tgt := 132) S dX1_takeSum_124 dX1_takeSum_125 (by decide) (fun c124 => ?_) (fun c124 => ?_)
                  · skip
                    refine lv_iconst (v := nI 0) S.1 S.2.1 dX1_takeSum_132 (by decide) ?_
                    refine lv_istore (lv' := [(9, .int (nI 0)), (8, .int (nI 1)), (0, .ref (t)), (1, .ref (x)), (2, .ref (y)), (3, .int (iI sg)), (4, .int (nI i)), (5, .int (nI j)), (6, .int (nI (X.length + Y.length))), (7, .int (nI u))]) S.1 S.2.1 dX1_takeSum_133 hl (by decide) rfl (fun ls hl => ?_)
                    refine lv_iload S.1 S.2.1 dX1_takeSum_135 (lv_at hl 1 rfl) ?_
                    refine lv_if_eq (tgt := 150) S.1 S.2.1 dX1_takeSum_137 (by decide) (fun c137 => ?_) (fun c137 => ?_)
                    · skip
                      first | exact absurd c137 (by decide) | exact absurd rfl c137
                    · skip
                      refine lv_aload_n S.1 S.2.1 dX1_takeSum_140 rfl (lv_at hl 3 rfl) ?_
                      refine gfX1_18 S hK hH hx0 dX1_takeSum_141 ?_
                      refine lv_iload S.1 S.2.1 dX1_takeSum_144 (lv_at hl 6 rfl) ?_
                      refine ald_l S hK hH hxa (by omega) (by omega) dX1_takeSum_146 ?_
                      refine tpl (x' := lN (cd X i)) (hx6 i hi) ?_
                      refine lv_goto (tgt := 157) S.1 S.2.1 dX1_takeSum_147 (by decide) ?_
                      refine lv_lstore (lv' := [(10, .long (lN (cd X i))), (9, .int (nI 0)), (8, .int (nI 1)), (0, .ref (t)), (1, .ref (x)), (2, .ref (y)), (3, .int (iI sg)), (4, .int (nI i)), (5, .int (nI j)), (6, .int (nI (X.length + Y.length))), (7, .int (nI u))]) S.1 S.2.1 dX1_takeSum_157 hl (by decide) rfl (fun ls hl => ?_)
                      refine lv_lconst (v := lI 0) S.1 S.2.1 dX1_takeSum_159 (by decide) ?_
                      refine lv_lstore (lv' := [(12, .long (lI 0)), (10, .long (lN (cd X i))), (9, .int (nI 0)), (8, .int (nI 1)), (0, .ref (t)), (1, .ref (x)), (2, .ref (y)), (3, .int (iI sg)), (4, .int (nI i)), (5, .int (nI j)), (6, .int (nI (X.length + Y.length))), (7, .int (nI u))]) S.1 S.2.1 dX1_takeSum_160 hl (by decide) rfl (fun ls hl => ?_)
                      refine lv_iload S.1 S.2.1 dX1_takeSum_162 (lv_at hl 3 rfl) ?_
                      refine lv_if_eq (tgt := 183) S.1 S.2.1 dX1_takeSum_164 (by decide) (fun c164 => ?_) (fun c164 => ?_)
                      · skip
                        first | exact absurd c164 (by decide) | exact absurd rfl c164
                      · skip
                        refine lv_lload S.1 S.2.1 dX1_takeSum_167 (lv_at hl 0 rfl) ?_
                        refine lv_aload_n S.1 S.2.1 dX1_takeSum_169 rfl (lv_at hl 5 rfl) ?_
                        refine gfX1_24 S hK hH hx0 dX1_takeSum_170 ?_
                        refine lv_iload S.1 S.2.1 dX1_takeSum_173 (lv_at hl 8 rfl) ?_
                        refine ald_i S hK hH hxb (by omega) (by omega) dX1_takeSum_175 ?_
                        refine tpi (x' := iI (cf X i)) (hx7 i hi) ?_
                        refine lv_i2l (v := lI (cf X i)) S.1 S.2.1 dX1_takeSum_176 (iI_l (by omega)) ?_
                        refine lv_ladd S.1 S.2.1 dX1_takeSum_177 ?_
                        refine tpl (x' := lI ((0) + (cf X i))) (lI_add _ _) ?_
                        refine lv_lstore (lv' := [(12, .long (lI ((0) + (cf X i)))), (10, .long (lN (cd X i))), (9, .int (nI 0)), (8, .int (nI 1)), (0, .ref (t)), (1, .ref (x)), (2, .ref (y)), (3, .int (iI sg)), (4, .int (nI i)), (5, .int (nI j)), (6, .int (nI (X.length + Y.length))), (7, .int (nI u))]) S.1 S.2.1 dX1_takeSum_178 hl (by decide) rfl (fun ls hl => ?_)
                        refine lv_iinc (v := nI (i + 1)) (lv' := [(4, .int (nI (i + 1))), (12, .long (lI ((0) + (cf X i)))), (10, .long (lN (cd X i))), (9, .int (nI 0)), (8, .int (nI 1)), (0, .ref (t)), (1, .ref (x)), (2, .ref (y)), (3, .int (iI sg)), (5, .int (nI j)), (6, .int (nI (X.length + Y.length))), (7, .int (nI u))]) S.1 S.2.1 dX1_takeSum_180 hl (k := 8) rfl (nI_inc _ 1) (by decide) rfl (fun ls hl => ?_)
                        refine lv_iload S.1 S.2.1 dX1_takeSum_183 (lv_at hl 3 rfl) ?_
                        refine lv_if_eq (tgt := 207) S.1 S.2.1 dX1_takeSum_185 (by decide) (fun c185 => ?_) (fun c185 => ?_)
                        · skip
                          refine lv_aload_n S.1 S.2.1 dX1_takeSum_207 rfl (lv_at hl 5 rfl) ?_
                          refine lv_lload S.1 S.2.1 dX1_takeSum_208 (lv_at hl 2 rfl) ?_
                          refine lv_lload S.1 S.2.1 dX1_takeSum_210 (lv_at hl 1 rfl) ?_
                          refine ck_i (run_V (As := [.long (lN (cd X i)), .long (lI ((0) + (cf X i)))]) (rest := []) S hK hH (kX1_append t 60 (cd X i) acc ((0) + (cf X i)) 0 tp hpc (by omega)) ceX1_append mW130 hpc.ob rfl rfl hl.1 rfl (Nat.le_of_ble_eq_true rfl) dX1_takeSum_212 ⟨rfl, rfl, by decide, by decide⟩ ⟨show 0 + 0 ≤ 0 by omega, show 0 + 0 ≤ 0 by omega⟩) hH (fun r212 w4 n4 H locs hp hH => ?_)
                          obtain ⟨hn1, hfr, hq⟩ := hp
                          rw [hn1] at hH
                          replace hx0 := (hfr (x) (by omega)).trans hx0
                          replace hxa := (hfr (x + 1) (by omega)).trans hxa
                          replace hxb := (hfr (x + 2) (by omega)).trans hxb
                          replace hy0 := (hfr (y) (by omega)).trans hy0
                          replace hya := (hfr (y + 1) (by omega)).trans hya
                          replace hyb := (hfr (y + 2) (by omega)).trans hyb
                          replace hF : ∀ b, b < t ∨ t + 3 ≤ b → w4 b = w b := fun b hb => (hfr b (by omega)).trans (hF b hb)
                          refine lv_if_ne (tgt := 220) S.1 S.2.1 dX1_takeSum_215 (by decide) (fun c215 => ?_) (fun c215 => ?_)
                          · skip
                            rcases hq with ⟨_, L', e1, hpc⟩ | ⟨e1, _⟩
                            rotate_left
                            · exact absurd e1 c215
                            refine lv_iinc (v := nI (u + 1)) (lv' := [(7, .int (nI (u + 1))), (4, .int (nI (i + 1))), (12, .long (lI ((0) + (cf X i)))), (10, .long (lN (cd X i))), (9, .int (nI 0)), (8, .int (nI 1)), (0, .ref (t)), (1, .ref (x)), (2, .ref (y)), (3, .int (iI sg)), (5, .int (nI j)), (6, .int (nI (X.length + Y.length)))]) S.1 S.2.1 dX1_takeSum_220 hl (k := 11) rfl (nI_inc _ 1) (by decide) rfl (fun ls hl => ?_)
                            refine lv_goto (tgt := 24) S.1 S.2.1 dX1_takeSum_223 (by decide) ?_
                            exact ih24 _ _ _ _ (by omega) ⟨u + 1, i + 1, j, L', w4, lv_sub hl [6, 7, 8, 9, 1, 10, 11, 0] rfl, hH, hx0, hxa, hxb, hy0, hya, hyb, hpc, hF, by omega, by omega, by omega, hts.trans (tsum_some c28 (by omega) (nxtC hi hj hc) e1), rfl⟩
                          · skip
                            rcases hq with ⟨e1, _⟩ | ⟨_, e1, e2⟩
                            · rw [e1] at c215; exact absurd c215 (by decide)
                            refine lv_iconst (v := nI 0) S.1 S.2.1 dX1_takeSum_218 (by decide) ?_
                            rw [← e2] at hpc
                            exact rt_z S hr hlk hH dX1_takeSum_219 (by decide) (⟨rfl, hF, Or.inr ⟨rfl, hts.trans (tsum_none c28 (by omega) (nxtC hi hj hc) e1), acc, hpc⟩⟩)
                        · skip
                          first | exact absurd c185 (by decide) | exact absurd rfl c185
                  · skip
                    exfalso; rw [pk_lLT (by omega) (by omega)] at c124; omega
      · skip
        have hbx := okx i hi
        have hby := oky j hj
        have hbs := sg_b hsg hby.2
        refine lv_iload S.1 S.2.1 dX1_takeSum_49 (lv_at hl 4 rfl) ?_
        refine lv_aload_n S.1 S.2.1 dX1_takeSum_51 rfl (lv_at hl 1 rfl) ?_
        refine gfX1_28 S hK hH hx0 dX1_takeSum_52 ?_
        refine bn_ge (tgt := 89) S dX1_takeSum_55 (by decide) (by omega) (fun c55 => ?_) (fun c55 => ?_)
        · skip
          exfalso; omega
        · skip
          refine lv_iload S.1 S.2.1 dX1_takeSum_58 (lv_at hl 5 rfl) ?_
          refine lv_aload_n S.1 S.2.1 dX1_takeSum_60 rfl (lv_at hl 2 rfl) ?_
          refine gfX1_28 S hK hH hy0 dX1_takeSum_61 ?_
          refine bn_ge (tgt := 85) S dX1_takeSum_64 (by decide) (by omega) (fun c64 => ?_) (fun c64 => ?_)
          · skip
            exfalso; omega
          · skip
            refine lv_aload_n S.1 S.2.1 dX1_takeSum_67 rfl (lv_at hl 1 rfl) ?_
            refine gfX1_18 S hK hH hx0 dX1_takeSum_68 ?_
            refine lv_iload S.1 S.2.1 dX1_takeSum_71 (lv_at hl 4 rfl) ?_
            refine ald_l S hK hH hxa (by omega) (by omega) dX1_takeSum_73 ?_
            refine tpl (x' := lN (cd X i)) (hx6 i hi) ?_
            refine lv_aload_n S.1 S.2.1 dX1_takeSum_74 rfl (lv_at hl 2 rfl) ?_
            refine gfX1_18 S hK hH hy0 dX1_takeSum_75 ?_
            refine lv_iload S.1 S.2.1 dX1_takeSum_78 (lv_at hl 5 rfl) ?_
            refine ald_l S hK hH hya (by omega) (by omega) dX1_takeSum_80 ?_
            refine tpl (x' := lN (cd Y j)) (hy6 j hj) ?_
            refine bl_lt (tgt := 89) S dX1_takeSum_81 dX1_takeSum_82 (by decide) (fun c81 => ?_) (fun c81 => ?_)
            · skip
              exfalso; rw [pk_lLT (by omega) (by omega)] at c81; omega
            · skip
              refine lv_iconst (v := nI 1) S.1 S.2.1 dX1_takeSum_85 (by decide) ?_
              refine lv_goto (tgt := 90) S.1 S.2.1 dX1_takeSum_86 (by decide) ?_
              refine lv_istore (lv' := [(8, .int (nI 1)), (0, .ref (t)), (1, .ref (x)), (2, .ref (y)), (3, .int (iI sg)), (4, .int (nI i)), (5, .int (nI j)), (6, .int (nI (X.length + Y.length))), (7, .int (nI u))]) S.1 S.2.1 dX1_takeSum_90 hl (by decide) rfl (fun ls hl => ?_)
              refine lv_iload S.1 S.2.1 dX1_takeSum_92 (lv_at hl 6 rfl) ?_
              refine lv_aload_n S.1 S.2.1 dX1_takeSum_94 rfl (lv_at hl 3 rfl) ?_
              refine gfX1_28 S hK hH hy0 dX1_takeSum_95 ?_
              refine bn_ge (tgt := 132) S dX1_takeSum_98 (by decide) (by omega) (fun c98 => ?_) (fun c98 => ?_)
              · skip
                exfalso; omega
              · skip
                refine lv_iload S.1 S.2.1 dX1_takeSum_101 (lv_at hl 5 rfl) ?_
                refine lv_aload_n S.1 S.2.1 dX1_takeSum_103 rfl (lv_at hl 2 rfl) ?_
                refine gfX1_28 S hK hH hx0 dX1_takeSum_104 ?_
                refine bn_ge (tgt := 128) S dX1_takeSum_107 (by decide) (by omega) (fun c107 => ?_) (fun c107 => ?_)
                · skip
                  exfalso; omega
                · skip
                  refine lv_aload_n S.1 S.2.1 dX1_takeSum_110 rfl (lv_at hl 3 rfl) ?_
                  refine gfX1_18 S hK hH hy0 dX1_takeSum_111 ?_
                  refine lv_iload S.1 S.2.1 dX1_takeSum_114 (lv_at hl 6 rfl) ?_
                  refine ald_l S hK hH hya (by omega) (by omega) dX1_takeSum_116 ?_
                  refine tpl (x' := lN (cd Y j)) (hy6 j hj) ?_
                  refine lv_aload_n S.1 S.2.1 dX1_takeSum_117 rfl (lv_at hl 2 rfl) ?_
                  refine gfX1_18 S hK hH hx0 dX1_takeSum_118 ?_
                  refine lv_iload S.1 S.2.1 dX1_takeSum_121 (lv_at hl 5 rfl) ?_
                  refine ald_l S hK hH hxa (by omega) (by omega) dX1_takeSum_123 ?_
                  refine tpl (x' := lN (cd X i)) (hx6 i hi) ?_
                  refine bl_lt (tgt := 132) S dX1_takeSum_124 dX1_takeSum_125 (by decide) (fun c124 => ?_) (fun c124 => ?_)
                  · skip
                    exfalso; rw [pk_lLT (by omega) (by omega)] at c124; omega
                  · skip
                    refine lv_iconst (v := nI 1) S.1 S.2.1 dX1_takeSum_128 (by decide) ?_
                    refine lv_goto (tgt := 133) S.1 S.2.1 dX1_takeSum_129 (by decide) ?_
                    refine lv_istore (lv' := [(9, .int (nI 1)), (8, .int (nI 1)), (0, .ref (t)), (1, .ref (x)), (2, .ref (y)), (3, .int (iI sg)), (4, .int (nI i)), (5, .int (nI j)), (6, .int (nI (X.length + Y.length))), (7, .int (nI u))]) S.1 S.2.1 dX1_takeSum_133 hl (by decide) rfl (fun ls hl => ?_)
                    refine lv_iload S.1 S.2.1 dX1_takeSum_135 (lv_at hl 1 rfl) ?_
                    refine lv_if_eq (tgt := 150) S.1 S.2.1 dX1_takeSum_137 (by decide) (fun c137 => ?_) (fun c137 => ?_)
                    · skip
                      first | exact absurd c137 (by decide) | exact absurd rfl c137
                    · skip
                      refine lv_aload_n S.1 S.2.1 dX1_takeSum_140 rfl (lv_at hl 3 rfl) ?_
                      refine gfX1_18 S hK hH hx0 dX1_takeSum_141 ?_
                      refine lv_iload S.1 S.2.1 dX1_takeSum_144 (lv_at hl 6 rfl) ?_
                      refine ald_l S hK hH hxa (by omega) (by omega) dX1_takeSum_146 ?_
                      refine tpl (x' := lN (cd X i)) (hx6 i hi) ?_
                      refine lv_goto (tgt := 157) S.1 S.2.1 dX1_takeSum_147 (by decide) ?_
                      refine lv_lstore (lv' := [(10, .long (lN (cd X i))), (9, .int (nI 1)), (8, .int (nI 1)), (0, .ref (t)), (1, .ref (x)), (2, .ref (y)), (3, .int (iI sg)), (4, .int (nI i)), (5, .int (nI j)), (6, .int (nI (X.length + Y.length))), (7, .int (nI u))]) S.1 S.2.1 dX1_takeSum_157 hl (by decide) rfl (fun ls hl => ?_)
                      refine lv_lconst (v := lI 0) S.1 S.2.1 dX1_takeSum_159 (by decide) ?_
                      refine lv_lstore (lv' := [(12, .long (lI 0)), (10, .long (lN (cd X i))), (9, .int (nI 1)), (8, .int (nI 1)), (0, .ref (t)), (1, .ref (x)), (2, .ref (y)), (3, .int (iI sg)), (4, .int (nI i)), (5, .int (nI j)), (6, .int (nI (X.length + Y.length))), (7, .int (nI u))]) S.1 S.2.1 dX1_takeSum_160 hl (by decide) rfl (fun ls hl => ?_)
                      refine lv_iload S.1 S.2.1 dX1_takeSum_162 (lv_at hl 3 rfl) ?_
                      refine lv_if_eq (tgt := 183) S.1 S.2.1 dX1_takeSum_164 (by decide) (fun c164 => ?_) (fun c164 => ?_)
                      · skip
                        first | exact absurd c164 (by decide) | exact absurd rfl c164
                      · skip
                        refine lv_lload S.1 S.2.1 dX1_takeSum_167 (lv_at hl 0 rfl) ?_
                        refine lv_aload_n S.1 S.2.1 dX1_takeSum_169 rfl (lv_at hl 5 rfl) ?_
                        refine gfX1_24 S hK hH hx0 dX1_takeSum_170 ?_
                        refine lv_iload S.1 S.2.1 dX1_takeSum_173 (lv_at hl 8 rfl) ?_
                        refine ald_i S hK hH hxb (by omega) (by omega) dX1_takeSum_175 ?_
                        refine tpi (x' := iI (cf X i)) (hx7 i hi) ?_
                        refine lv_i2l (v := lI (cf X i)) S.1 S.2.1 dX1_takeSum_176 (iI_l (by omega)) ?_
                        refine lv_ladd S.1 S.2.1 dX1_takeSum_177 ?_
                        refine tpl (x' := lI ((0) + (cf X i))) (lI_add _ _) ?_
                        refine lv_lstore (lv' := [(12, .long (lI ((0) + (cf X i)))), (10, .long (lN (cd X i))), (9, .int (nI 1)), (8, .int (nI 1)), (0, .ref (t)), (1, .ref (x)), (2, .ref (y)), (3, .int (iI sg)), (4, .int (nI i)), (5, .int (nI j)), (6, .int (nI (X.length + Y.length))), (7, .int (nI u))]) S.1 S.2.1 dX1_takeSum_178 hl (by decide) rfl (fun ls hl => ?_)
                        refine lv_iinc (v := nI (i + 1)) (lv' := [(4, .int (nI (i + 1))), (12, .long (lI ((0) + (cf X i)))), (10, .long (lN (cd X i))), (9, .int (nI 1)), (8, .int (nI 1)), (0, .ref (t)), (1, .ref (x)), (2, .ref (y)), (3, .int (iI sg)), (5, .int (nI j)), (6, .int (nI (X.length + Y.length))), (7, .int (nI u))]) S.1 S.2.1 dX1_takeSum_180 hl (k := 8) rfl (nI_inc _ 1) (by decide) rfl (fun ls hl => ?_)
                        refine lv_iload S.1 S.2.1 dX1_takeSum_183 (lv_at hl 3 rfl) ?_
                        refine lv_if_eq (tgt := 207) S.1 S.2.1 dX1_takeSum_185 (by decide) (fun c185 => ?_) (fun c185 => ?_)
                        · skip
                          first | exact absurd c185 (by decide) | exact absurd rfl c185
                        · skip
                          refine lv_lload S.1 S.2.1 dX1_takeSum_188 (lv_at hl 1 rfl) ?_
                          refine lv_iload_n S.1 S.2.1 dX1_takeSum_190 rfl (lv_at hl 8 rfl) ?_
                          refine lv_i2l (v := lI (sg)) S.1 S.2.1 dX1_takeSum_191 (iI_l (by omega)) ?_
                          refine lv_aload_n S.1 S.2.1 dX1_takeSum_192 rfl (lv_at hl 7 rfl) ?_
                          refine gfX1_24 S hK hH hy0 dX1_takeSum_193 ?_
                          refine lv_iload S.1 S.2.1 dX1_takeSum_196 (lv_at hl 9 rfl) ?_
                          refine ald_i S hK hH hyb (by omega) (by omega) dX1_takeSum_198 ?_
                          refine tpi (x' := iI (cf Y j)) (hy7 j hj) ?_
                          refine lv_i2l (v := lI (cf Y j)) S.1 S.2.1 dX1_takeSum_199 (iI_l (by omega)) ?_
                          refine lv_lmul S.1 S.2.1 dX1_takeSum_200 ?_
                          refine tpl (x' := lI ((sg) * (cf Y j))) (lI_mul _ _) ?_
                          refine lv_ladd S.1 S.2.1 dX1_takeSum_201 ?_
                          refine tpl (x' := lI (((0) + (cf X i)) + ((sg) * (cf Y j)))) (lI_add _ _) ?_
                          refine lv_lstore (lv' := [(12, .long (lI (((0) + (cf X i)) + ((sg) * (cf Y j))))), (4, .int (nI (i + 1))), (10, .long (lN (cd X i))), (9, .int (nI 1)), (8, .int (nI 1)), (0, .ref (t)), (1, .ref (x)), (2, .ref (y)), (3, .int (iI sg)), (5, .int (nI j)), (6, .int (nI (X.length + Y.length))), (7, .int (nI u))]) S.1 S.2.1 dX1_takeSum_202 hl (by decide) rfl (fun ls hl => ?_)
                          refine lv_iinc (v := nI (j + 1)) (lv' := [(5, .int (nI (j + 1))), (12, .long (lI (((0) + (cf X i)) + ((sg) * (cf Y j))))), (4, .int (nI (i + 1))), (10, .long (lN (cd X i))), (9, .int (nI 1)), (8, .int (nI 1)), (0, .ref (t)), (1, .ref (x)), (2, .ref (y)), (3, .int (iI sg)), (6, .int (nI (X.length + Y.length))), (7, .int (nI u))]) S.1 S.2.1 dX1_takeSum_204 hl (k := 9) rfl (nI_inc _ 1) (by decide) rfl (fun ls hl => ?_)
                          refine lv_aload_n S.1 S.2.1 dX1_takeSum_207 rfl (lv_at hl 6 rfl) ?_
                          refine lv_lload S.1 S.2.1 dX1_takeSum_208 (lv_at hl 3 rfl) ?_
                          refine lv_lload S.1 S.2.1 dX1_takeSum_210 (lv_at hl 1 rfl) ?_
                          refine ck_i (run_V (As := [.long (lN (cd X i)), .long (lI (((0) + (cf X i)) + ((sg) * (cf Y j))))]) (rest := []) S hK hH (kX1_append t 60 (cd X i) acc (((0) + (cf X i)) + ((sg) * (cf Y j))) 0 tp hpc (by omega)) ceX1_append mW130 hpc.ob rfl rfl hl.1 rfl (Nat.le_of_ble_eq_true rfl) dX1_takeSum_212 ⟨rfl, rfl, by decide, by decide⟩ ⟨show 0 + 0 ≤ 0 by omega, show 0 + 0 ≤ 0 by omega⟩) hH (fun r212 w5 n5 H locs hp hH => ?_)
                          obtain ⟨hn1, hfr, hq⟩ := hp
                          rw [hn1] at hH
                          replace hx0 := (hfr (x) (by omega)).trans hx0
                          replace hxa := (hfr (x + 1) (by omega)).trans hxa
                          replace hxb := (hfr (x + 2) (by omega)).trans hxb
                          replace hy0 := (hfr (y) (by omega)).trans hy0
                          replace hya := (hfr (y + 1) (by omega)).trans hya
                          replace hyb := (hfr (y + 2) (by omega)).trans hyb
                          replace hF : ∀ b, b < t ∨ t + 3 ≤ b → w5 b = w b := fun b hb => (hfr b (by omega)).trans (hF b hb)
                          refine lv_if_ne (tgt := 220) S.1 S.2.1 dX1_takeSum_215 (by decide) (fun c215 => ?_) (fun c215 => ?_)
                          · skip
                            rcases hq with ⟨_, L', e1, hpc⟩ | ⟨e1, _⟩
                            rotate_left
                            · exact absurd e1 c215
                            refine lv_iinc (v := nI (u + 1)) (lv' := [(7, .int (nI (u + 1))), (5, .int (nI (j + 1))), (12, .long (lI (((0) + (cf X i)) + ((sg) * (cf Y j))))), (4, .int (nI (i + 1))), (10, .long (lN (cd X i))), (9, .int (nI 1)), (8, .int (nI 1)), (0, .ref (t)), (1, .ref (x)), (2, .ref (y)), (3, .int (iI sg)), (6, .int (nI (X.length + Y.length)))]) S.1 S.2.1 dX1_takeSum_220 hl (k := 11) rfl (nI_inc _ 1) (by decide) rfl (fun ls hl => ?_)
                            refine lv_goto (tgt := 24) S.1 S.2.1 dX1_takeSum_223 (by decide) ?_
                            exact ih24 _ _ _ _ (by omega) ⟨u + 1, i + 1, j + 1, L', w5, lv_sub hl [7, 8, 9, 10, 3, 1, 11, 0] rfl, hH, hx0, hxa, hxb, hy0, hya, hyb, hpc, hF, by omega, by omega, by omega, hts.trans (tsum_some c28 (by omega) (nxtD hi hj hc) e1), rfl⟩
                          · skip
                            rcases hq with ⟨e1, _⟩ | ⟨_, e1, e2⟩
                            · rw [e1] at c215; exact absurd c215 (by decide)
                            refine lv_iconst (v := nI 0) S.1 S.2.1 dX1_takeSum_218 (by decide) ?_
                            rw [← e2] at hpc
                            exact rt_z S hr hlk hH dX1_takeSum_219 (by decide) (⟨rfl, hF, Or.inr ⟨rfl, hts.trans (tsum_none c28 (by omega) (nxtD hi hj hc) e1), acc, hpc⟩⟩)
      · skip
        have hbx := okx i hi
        have hby := oky j hj
        have hbs := sg_b hsg hby.2
        refine lv_iload S.1 S.2.1 dX1_takeSum_49 (lv_at hl 4 rfl) ?_
        refine lv_aload_n S.1 S.2.1 dX1_takeSum_51 rfl (lv_at hl 1 rfl) ?_
        refine gfX1_28 S hK hH hx0 dX1_takeSum_52 ?_
        refine bn_ge (tgt := 89) S dX1_takeSum_55 (by decide) (by omega) (fun c55 => ?_) (fun c55 => ?_)
        · skip
          exfalso; omega
        · skip
          refine lv_iload S.1 S.2.1 dX1_takeSum_58 (lv_at hl 5 rfl) ?_
          refine lv_aload_n S.1 S.2.1 dX1_takeSum_60 rfl (lv_at hl 2 rfl) ?_
          refine gfX1_28 S hK hH hy0 dX1_takeSum_61 ?_
          refine bn_ge (tgt := 85) S dX1_takeSum_64 (by decide) (by omega) (fun c64 => ?_) (fun c64 => ?_)
          · skip
            exfalso; omega
          · skip
            refine lv_aload_n S.1 S.2.1 dX1_takeSum_67 rfl (lv_at hl 1 rfl) ?_
            refine gfX1_18 S hK hH hx0 dX1_takeSum_68 ?_
            refine lv_iload S.1 S.2.1 dX1_takeSum_71 (lv_at hl 4 rfl) ?_
            refine ald_l S hK hH hxa (by omega) (by omega) dX1_takeSum_73 ?_
            refine tpl (x' := lN (cd X i)) (hx6 i hi) ?_
            refine lv_aload_n S.1 S.2.1 dX1_takeSum_74 rfl (lv_at hl 2 rfl) ?_
            refine gfX1_18 S hK hH hy0 dX1_takeSum_75 ?_
            refine lv_iload S.1 S.2.1 dX1_takeSum_78 (lv_at hl 5 rfl) ?_
            refine ald_l S hK hH hya (by omega) (by omega) dX1_takeSum_80 ?_
            refine tpl (x' := lN (cd Y j)) (hy6 j hj) ?_
            refine bl_lt (tgt := 89) S dX1_takeSum_81 dX1_takeSum_82 (by decide) (fun c81 => ?_) (fun c81 => ?_)
            · skip
              refine lv_iconst (v := nI 0) S.1 S.2.1 dX1_takeSum_89 (by decide) ?_
              refine lv_istore (lv' := [(8, .int (nI 0)), (0, .ref (t)), (1, .ref (x)), (2, .ref (y)), (3, .int (iI sg)), (4, .int (nI i)), (5, .int (nI j)), (6, .int (nI (X.length + Y.length))), (7, .int (nI u))]) S.1 S.2.1 dX1_takeSum_90 hl (by decide) rfl (fun ls hl => ?_)
              refine lv_iload S.1 S.2.1 dX1_takeSum_92 (lv_at hl 6 rfl) ?_
              refine lv_aload_n S.1 S.2.1 dX1_takeSum_94 rfl (lv_at hl 3 rfl) ?_
              refine gfX1_28 S hK hH hy0 dX1_takeSum_95 ?_
              refine bn_ge (tgt := 132) S dX1_takeSum_98 (by decide) (by omega) (fun c98 => ?_) (fun c98 => ?_)
              · skip
                exfalso; omega
              · skip
                refine lv_iload S.1 S.2.1 dX1_takeSum_101 (lv_at hl 5 rfl) ?_
                refine lv_aload_n S.1 S.2.1 dX1_takeSum_103 rfl (lv_at hl 2 rfl) ?_
                refine gfX1_28 S hK hH hx0 dX1_takeSum_104 ?_
                refine bn_ge (tgt := 128) S dX1_takeSum_107 (by decide) (by omega) (fun c107 => ?_) (fun c107 => ?_)
                · skip
                  exfalso; omega
                · skip
                  refine lv_aload_n S.1 S.2.1 dX1_takeSum_110 rfl (lv_at hl 3 rfl) ?_
                  refine gfX1_18 S hK hH hy0 dX1_takeSum_111 ?_
                  refine lv_iload S.1 S.2.1 dX1_takeSum_114 (lv_at hl 6 rfl) ?_
                  refine ald_l S hK hH hya (by omega) (by omega) dX1_takeSum_116 ?_
                  refine tpl (x' := lN (cd Y j)) (hy6 j hj) ?_
                  refine lv_aload_n S.1 S.2.1 dX1_takeSum_117 rfl (lv_at hl 2 rfl) ?_
                  refine gfX1_18 S hK hH hx0 dX1_takeSum_118 ?_
                  refine lv_iload S.1 S.2.1 dX1_takeSum_121 (lv_at hl 5 rfl) ?_
                  refine ald_l S hK hH hxa (by omega) (by omega) dX1_takeSum_123 ?_
                  refine tpl (x' := lN (cd X i)) (hx6 i hi) ?_
                  refine bl_lt (tgt := 132) S dX1_takeSum_124 dX1_takeSum_125 (by decide) (fun c124 => ?_) (fun c124 => ?_)
                  · skip
                    exfalso; rw [pk_lLT (by omega) (by omega)] at c124; omega
                  · skip
                    refine lv_iconst (v := nI 1) S.1 S.2.1 dX1_takeSum_128 (by decide) ?_
                    refine lv_goto (tgt := 133) S.1 S.2.1 dX1_takeSum_129 (by decide) ?_
                    refine lv_istore (lv' := [(9, .int (nI 1)), (8, .int (nI 0)), (0, .ref (t)), (1, .ref (x)), (2, .ref (y)), (3, .int (iI sg)), (4, .int (nI i)), (5, .int (nI j)), (6, .int (nI (X.length + Y.length))), (7, .int (nI u))]) S.1 S.2.1 dX1_takeSum_133 hl (by decide) rfl (fun ls hl => ?_)
                    refine lv_iload S.1 S.2.1 dX1_takeSum_135 (lv_at hl 1 rfl) ?_
                    refine lv_if_eq (tgt := 150) S.1 S.2.1 dX1_takeSum_137 (by decide) (fun c137 => ?_) (fun c137 => ?_)
                    · skip
                      refine lv_aload_n S.1 S.2.1 dX1_takeSum_150 rfl (lv_at hl 4 rfl) ?_
                      refine gfX1_18 S hK hH hy0 dX1_takeSum_151 ?_
                      refine lv_iload S.1 S.2.1 dX1_takeSum_154 (lv_at hl 7 rfl) ?_
                      refine ald_l S hK hH hya (by omega) (by omega) dX1_takeSum_156 ?_
                      refine tpl (x' := lN (cd Y j)) (hy6 j hj) ?_
                      refine lv_lstore (lv' := [(10, .long (lN (cd Y j))), (9, .int (nI 1)), (8, .int (nI 0)), (0, .ref (t)), (1, .ref (x)), (2, .ref (y)), (3, .int (iI sg)), (4, .int (nI i)), (5, .int (nI j)), (6, .int (nI (X.length + Y.length))), (7, .int (nI u))]) S.1 S.2.1 dX1_takeSum_157 hl (by decide) rfl (fun ls hl => ?_)
                      refine lv_lconst (v := lI 0) S.1 S.2.1 dX1_takeSum_159 (by decide) ?_
                      refine lv_lstore (lv' := [(12, .long (lI 0)), (10, .long (lN (cd Y j))), (9, .int (nI 1)), (8, .int (nI 0)), (0, .ref (t)), (1, .ref (x)), (2, .ref (y)), (3, .int (iI sg)), (4, .int (nI i)), (5, .int (nI j)), (6, .int (nI (X.length + Y.length))), (7, .int (nI u))]) S.1 S.2.1 dX1_takeSum_160 hl (by decide) rfl (fun ls hl => ?_)
                      refine lv_iload S.1 S.2.1 dX1_takeSum_162 (lv_at hl 3 rfl) ?_
                      refine lv_if_eq (tgt := 183) S.1 S.2.1 dX1_takeSum_164 (by decide) (fun c164 => ?_) (fun c164 => ?_)
                      · skip
                        refine lv_iload S.1 S.2.1 dX1_takeSum_183 (lv_at hl 2 rfl) ?_
                        refine lv_if_eq (tgt := 207) S.1 S.2.1 dX1_takeSum_185 (by decide) (fun c185 => ?_) (fun c185 => ?_)
                        · skip
                          first | exact absurd c185 (by decide) | exact absurd rfl c185
                        · skip
                          refine lv_lload S.1 S.2.1 dX1_takeSum_188 (lv_at hl 0 rfl) ?_
                          refine lv_iload_n S.1 S.2.1 dX1_takeSum_190 rfl (lv_at hl 7 rfl) ?_
                          refine lv_i2l (v := lI (sg)) S.1 S.2.1 dX1_takeSum_191 (iI_l (by omega)) ?_
                          refine lv_aload_n S.1 S.2.1 dX1_takeSum_192 rfl (lv_at hl 6 rfl) ?_
                          refine gfX1_24 S hK hH hy0 dX1_takeSum_193 ?_
                          refine lv_iload S.1 S.2.1 dX1_takeSum_196 (lv_at hl 9 rfl) ?_
                          refine ald_i S hK hH hyb (by omega) (by omega) dX1_takeSum_198 ?_
                          refine tpi (x' := iI (cf Y j)) (hy7 j hj) ?_
                          refine lv_i2l (v := lI (cf Y j)) S.1 S.2.1 dX1_takeSum_199 (iI_l (by omega)) ?_
                          refine lv_lmul S.1 S.2.1 dX1_takeSum_200 ?_
                          refine tpl (x' := lI ((sg) * (cf Y j))) (lI_mul _ _) ?_
                          refine lv_ladd S.1 S.2.1 dX1_takeSum_201 ?_
                          refine tpl (x' := lI ((0) + ((sg) * (cf Y j)))) (lI_add _ _) ?_
                          refine lv_lstore (lv' := [(12, .long (lI ((0) + ((sg) * (cf Y j))))), (10, .long (lN (cd Y j))), (9, .int (nI 1)), (8, .int (nI 0)), (0, .ref (t)), (1, .ref (x)), (2, .ref (y)), (3, .int (iI sg)), (4, .int (nI i)), (5, .int (nI j)), (6, .int (nI (X.length + Y.length))), (7, .int (nI u))]) S.1 S.2.1 dX1_takeSum_202 hl (by decide) rfl (fun ls hl => ?_)
                          refine lv_iinc (v := nI (j + 1)) (lv' := [(5, .int (nI (j + 1))), (12, .long (lI ((0) + ((sg) * (cf Y j))))), (10, .long (lN (cd Y j))), (9, .int (nI 1)), (8, .int (nI 0)), (0, .ref (t)), (1, .ref (x)), (2, .ref (y)), (3, .int (iI sg)), (4, .int (nI i)), (6, .int (nI (X.length + Y.length))), (7, .int (nI u))]) S.1 S.2.1 dX1_takeSum_204 hl (k := 9) rfl (nI_inc _ 1) (by decide) rfl (fun ls hl => ?_)
                          refine lv_aload_n S.1 S.2.1 dX1_takeSum_207 rfl (lv_at hl 5 rfl) ?_
                          refine lv_lload S.1 S.2.1 dX1_takeSum_208 (lv_at hl 2 rfl) ?_
                          refine lv_lload S.1 S.2.1 dX1_takeSum_210 (lv_at hl 1 rfl) ?_
                          refine ck_i (run_V (As := [.long (lN (cd Y j)), .long (lI ((0) + ((sg) * (cf Y j))))]) (rest := []) S hK hH (kX1_append t 60 (cd Y j) acc ((0) + ((sg) * (cf Y j))) 0 tp hpc (by omega)) ceX1_append mW130 hpc.ob rfl rfl hl.1 rfl (Nat.le_of_ble_eq_true rfl) dX1_takeSum_212 ⟨rfl, rfl, by decide, by decide⟩ ⟨show 0 + 0 ≤ 0 by omega, show 0 + 0 ≤ 0 by omega⟩) hH (fun r212 w6 n6 H locs hp hH => ?_)
                          obtain ⟨hn1, hfr, hq⟩ := hp
                          rw [hn1] at hH
                          replace hx0 := (hfr (x) (by omega)).trans hx0
                          replace hxa := (hfr (x + 1) (by omega)).trans hxa
                          replace hxb := (hfr (x + 2) (by omega)).trans hxb
                          replace hy0 := (hfr (y) (by omega)).trans hy0
                          replace hya := (hfr (y + 1) (by omega)).trans hya
                          replace hyb := (hfr (y + 2) (by omega)).trans hyb
                          replace hF : ∀ b, b < t ∨ t + 3 ≤ b → w6 b = w b := fun b hb => (hfr b (by omega)).trans (hF b hb)
                          refine lv_if_ne (tgt := 220) S.1 S.2.1 dX1_takeSum_215 (by decide) (fun c215 => ?_) (fun c215 => ?_)
                          · skip
                            rcases hq with ⟨_, L', e1, hpc⟩ | ⟨e1, _⟩
                            rotate_left
                            · exact absurd e1 c215
                            refine lv_iinc (v := nI (u + 1)) (lv' := [(7, .int (nI (u + 1))), (5, .int (nI (j + 1))), (12, .long (lI ((0) + ((sg) * (cf Y j))))), (10, .long (lN (cd Y j))), (9, .int (nI 1)), (8, .int (nI 0)), (0, .ref (t)), (1, .ref (x)), (2, .ref (y)), (3, .int (iI sg)), (4, .int (nI i)), (6, .int (nI (X.length + Y.length)))]) S.1 S.2.1 dX1_takeSum_220 hl (k := 11) rfl (nI_inc _ 1) (by decide) rfl (fun ls hl => ?_)
                            refine lv_goto (tgt := 24) S.1 S.2.1 dX1_takeSum_223 (by decide) ?_
                            exact ih24 _ _ _ _ (by omega) ⟨u + 1, i, j + 1, L', w6, lv_sub hl [6, 7, 8, 9, 10, 1, 11, 0] rfl, hH, hx0, hxa, hxb, hy0, hya, hyb, hpc, hF, by omega, by omega, by omega, hts.trans (tsum_some c28 (by omega) (nxtE hi hj hc) e1), rfl⟩
                          · skip
                            rcases hq with ⟨e1, _⟩ | ⟨_, e1, e2⟩
                            · rw [e1] at c215; exact absurd c215 (by decide)
                            refine lv_iconst (v := nI 0) S.1 S.2.1 dX1_takeSum_218 (by decide) ?_
                            rw [← e2] at hpc
                            exact rt_z S hr hlk hH dX1_takeSum_219 (by decide) (⟨rfl, hF, Or.inr ⟨rfl, hts.trans (tsum_none c28 (by omega) (nxtE hi hj hc) e1), acc, hpc⟩⟩)
                      · skip
                        first | exact absurd c164 (by decide) | exact absurd rfl c164
                    · skip
                      first | exact absurd c137 (by decide) | exact absurd rfl c137
            · skip
              exfalso; rw [pk_lLT (by omega) (by omega)] at c81; omega
    · skip
      refine lv_iload S.1 S.2.1 dX1_takeSum_40 (lv_at hl 5 rfl) ?_
      refine lv_aload_n S.1 S.2.1 dX1_takeSum_42 rfl (lv_at hl 2 rfl) ?_
      refine gfX1_28 S hK hH hy0 dX1_takeSum_43 ?_
      refine bn_ge (tgt := 226) S dX1_takeSum_46 (by decide) (by omega) (fun c46 => ?_) (fun c46 => ?_)
      · skip
        refine lv_iconst (v := nI 1) S.1 S.2.1 dX1_takeSum_226 (by decide) ?_
        exact rt_z S hr hlk hH dX1_takeSum_227 (by decide) (⟨rfl, hF, Or.inl ⟨rfl, acc, by rw [hts]; exact tsum_end (by omega) (by omega), hpc⟩⟩)
      · skip
        rcases ts_cases (X := X) (Y := Y) (i := i) (j := j) (by omega) with ⟨hi, hj⟩ | ⟨hi, hj⟩ | ⟨hi, hj, hc⟩ | ⟨hi, hj, hc⟩ | ⟨hi, hj, hc⟩
        · skip
          have hbx := okx i hi
          refine lv_iload S.1 S.2.1 dX1_takeSum_49 (lv_at hl 4 rfl) ?_
          refine lv_aload_n S.1 S.2.1 dX1_takeSum_51 rfl (lv_at hl 1 rfl) ?_
          refine gfX1_28 S hK hH hx0 dX1_takeSum_52 ?_
          refine bn_ge (tgt := 89) S dX1_takeSum_55 (by decide) (by omega) (fun c55 => ?_) (fun c55 => ?_)
          · skip
            exfalso; omega
          · skip
            refine lv_iload S.1 S.2.1 dX1_takeSum_58 (lv_at hl 5 rfl) ?_
            refine lv_aload_n S.1 S.2.1 dX1_takeSum_60 rfl (lv_at hl 2 rfl) ?_
            refine gfX1_28 S hK hH hy0 dX1_takeSum_61 ?_
            refine bn_ge (tgt := 85) S dX1_takeSum_64 (by decide) (by omega) (fun c64 => ?_) (fun c64 => ?_)
            · skip
              refine lv_iconst (v := nI 1) S.1 S.2.1 dX1_takeSum_85 (by decide) ?_
              refine lv_goto (tgt := 90) S.1 S.2.1 dX1_takeSum_86 (by decide) ?_
              refine lv_istore (lv' := [(8, .int (nI 1)), (0, .ref (t)), (1, .ref (x)), (2, .ref (y)), (3, .int (iI sg)), (4, .int (nI i)), (5, .int (nI j)), (6, .int (nI (X.length + Y.length))), (7, .int (nI u))]) S.1 S.2.1 dX1_takeSum_90 hl (by decide) rfl (fun ls hl => ?_)
              refine lv_iload S.1 S.2.1 dX1_takeSum_92 (lv_at hl 6 rfl) ?_
              refine lv_aload_n S.1 S.2.1 dX1_takeSum_94 rfl (lv_at hl 3 rfl) ?_
              refine gfX1_28 S hK hH hy0 dX1_takeSum_95 ?_
              refine bn_ge (tgt := 132) S dX1_takeSum_98 (by decide) (by omega) (fun c98 => ?_) (fun c98 => ?_)
              · skip
                refine lv_iconst (v := nI 0) S.1 S.2.1 dX1_takeSum_132 (by decide) ?_
                refine lv_istore (lv' := [(9, .int (nI 0)), (8, .int (nI 1)), (0, .ref (t)), (1, .ref (x)), (2, .ref (y)), (3, .int (iI sg)), (4, .int (nI i)), (5, .int (nI j)), (6, .int (nI (X.length + Y.length))), (7, .int (nI u))]) S.1 S.2.1 dX1_takeSum_133 hl (by decide) rfl (fun ls hl => ?_)
                refine lv_iload S.1 S.2.1 dX1_takeSum_135 (lv_at hl 1 rfl) ?_
                refine lv_if_eq (tgt := 150) S.1 S.2.1 dX1_takeSum_137 (by decide) (fun c137 => ?_) (fun c137 => ?_)
                · skip
                  first | exact absurd c137 (by decide) | exact absurd rfl c137
                · skip
                  refine lv_aload_n S.1 S.2.1 dX1_takeSum_140 rfl (lv_at hl 3 rfl) ?_
                  refine gfX1_18 S hK hH hx0 dX1_takeSum_141 ?_
                  refine lv_iload S.1 S.2.1 dX1_takeSum_144 (lv_at hl 6 rfl) ?_
                  refine ald_l S hK hH hxa (by omega) (by omega) dX1_takeSum_146 ?_
                  refine tpl (x' := lN (cd X i)) (hx6 i hi) ?_
                  refine lv_goto (tgt := 157) S.1 S.2.1 dX1_takeSum_147 (by decide) ?_
                  refine lv_lstore (lv' := [(10, .long (lN (cd X i))), (9, .int (nI 0)), (8, .int (nI 1)), (0, .ref (t)), (1, .ref (x)), (2, .ref (y)), (3, .int (iI sg)), (4, .int (nI i)), (5, .int (nI j)), (6, .int (nI (X.length + Y.length))), (7, .int (nI u))]) S.1 S.2.1 dX1_takeSum_157 hl (by decide) rfl (fun ls hl => ?_)
                  refine lv_lconst (v := lI 0) S.1 S.2.1 dX1_takeSum_159 (by decide) ?_
                  refine lv_lstore (lv' := [(12, .long (lI 0)), (10, .long (lN (cd X i))), (9, .int (nI 0)), (8, .int (nI 1)), (0, .ref (t)), (1, .ref (x)), (2, .ref (y)), (3, .int (iI sg)), (4, .int (nI i)), (5, .int (nI j)), (6, .int (nI (X.length + Y.length))), (7, .int (nI u))]) S.1 S.2.1 dX1_takeSum_160 hl (by decide) rfl (fun ls hl => ?_)
                  refine lv_iload S.1 S.2.1 dX1_takeSum_162 (lv_at hl 3 rfl) ?_
                  refine lv_if_eq (tgt := 183) S.1 S.2.1 dX1_takeSum_164 (by decide) (fun c164 => ?_) (fun c164 => ?_)
                  · skip
                    first | exact absurd c164 (by decide) | exact absurd rfl c164
                  · skip
                    refine lv_lload S.1 S.2.1 dX1_takeSum_167 (lv_at hl 0 rfl) ?_
                    refine lv_aload_n S.1 S.2.1 dX1_takeSum_169 rfl (lv_at hl 5 rfl) ?_
                    refine gfX1_24 S hK hH hx0 dX1_takeSum_170 ?_
                    refine lv_iload S.1 S.2.1 dX1_takeSum_173 (lv_at hl 8 rfl) ?_
                    refine ald_i S hK hH hxb (by omega) (by omega) dX1_takeSum_175 ?_
                    refine tpi (x' := iI (cf X i)) (hx7 i hi) ?_
                    refine lv_i2l (v := lI (cf X i)) S.1 S.2.1 dX1_takeSum_176 (iI_l (by omega)) ?_
                    refine lv_ladd S.1 S.2.1 dX1_takeSum_177 ?_
                    refine tpl (x' := lI ((0) + (cf X i))) (lI_add _ _) ?_
                    refine lv_lstore (lv' := [(12, .long (lI ((0) + (cf X i)))), (10, .long (lN (cd X i))), (9, .int (nI 0)), (8, .int (nI 1)), (0, .ref (t)), (1, .ref (x)), (2, .ref (y)), (3, .int (iI sg)), (4, .int (nI i)), (5, .int (nI j)), (6, .int (nI (X.length + Y.length))), (7, .int (nI u))]) S.1 S.2.1 dX1_takeSum_178 hl (by decide) rfl (fun ls hl => ?_)
                    refine lv_iinc (v := nI (i + 1)) (lv' := [(4, .int (nI (i + 1))), (12, .long (lI ((0) + (cf X i)))), (10, .long (lN (cd X i))), (9, .int (nI 0)), (8, .int (nI 1)), (0, .ref (t)), (1, .ref (x)), (2, .ref (y)), (3, .int (iI sg)), (5, .int (nI j)), (6, .int (nI (X.length + Y.length))), (7, .int (nI u))]) S.1 S.2.1 dX1_takeSum_180 hl (k := 8) rfl (nI_inc _ 1) (by decide) rfl (fun ls hl => ?_)
                    refine lv_iload S.1 S.2.1 dX1_takeSum_183 (lv_at hl 3 rfl) ?_
                    refine lv_if_eq (tgt := 207) S.1 S.2.1 dX1_takeSum_185 (by decide) (fun c185 => ?_) (fun c185 => ?_)
                    · skip
                      refine lv_aload_n S.1 S.2.1 dX1_takeSum_207 rfl (lv_at hl 5 rfl) ?_
                      refine lv_lload S.1 S.2.1 dX1_takeSum_208 (lv_at hl 2 rfl) ?_
                      refine lv_lload S.1 S.2.1 dX1_takeSum_210 (lv_at hl 1 rfl) ?_
                      refine ck_i (run_V (As := [.long (lN (cd X i)), .long (lI ((0) + (cf X i)))]) (rest := []) S hK hH (kX1_append t 60 (cd X i) acc ((0) + (cf X i)) 0 tp hpc (by omega)) ceX1_append mW130 hpc.ob rfl rfl hl.1 rfl (Nat.le_of_ble_eq_true rfl) dX1_takeSum_212 ⟨rfl, rfl, by decide, by decide⟩ ⟨show 0 + 0 ≤ 0 by omega, show 0 + 0 ≤ 0 by omega⟩) hH (fun r212 w7 n7 H locs hp hH => ?_)
                      obtain ⟨hn1, hfr, hq⟩ := hp
                      rw [hn1] at hH
                      replace hx0 := (hfr (x) (by omega)).trans hx0
                      replace hxa := (hfr (x + 1) (by omega)).trans hxa
                      replace hxb := (hfr (x + 2) (by omega)).trans hxb
                      replace hy0 := (hfr (y) (by omega)).trans hy0
                      replace hya := (hfr (y + 1) (by omega)).trans hya
                      replace hyb := (hfr (y + 2) (by omega)).trans hyb
                      replace hF : ∀ b, b < t ∨ t + 3 ≤ b → w7 b = w b := fun b hb => (hfr b (by omega)).trans (hF b hb)
                      refine lv_if_ne (tgt := 220) S.1 S.2.1 dX1_takeSum_215 (by decide) (fun c215 => ?_) (fun c215 => ?_)
                      · skip
                        rcases hq with ⟨_, L', e1, hpc⟩ | ⟨e1, _⟩
                        rotate_left
                        · exact absurd e1 c215
                        refine lv_iinc (v := nI (u + 1)) (lv' := [(7, .int (nI (u + 1))), (4, .int (nI (i + 1))), (12, .long (lI ((0) + (cf X i)))), (10, .long (lN (cd X i))), (9, .int (nI 0)), (8, .int (nI 1)), (0, .ref (t)), (1, .ref (x)), (2, .ref (y)), (3, .int (iI sg)), (5, .int (nI j)), (6, .int (nI (X.length + Y.length)))]) S.1 S.2.1 dX1_takeSum_220 hl (k := 11) rfl (nI_inc _ 1) (by decide) rfl (fun ls hl => ?_)
                        refine lv_goto (tgt := 24) S.1 S.2.1 dX1_takeSum_223 (by decide) ?_
                        exact ih24 _ _ _ _ (by omega) ⟨u + 1, i + 1, j, L', w7, lv_sub hl [6, 7, 8, 9, 1, 10, 11, 0] rfl, hH, hx0, hxa, hxb, hy0, hya, hyb, hpc, hF, by omega, by omega, by omega, hts.trans (tsum_some c28 (by omega) (nxtA hi hj) e1), rfl⟩
                      · skip
                        rcases hq with ⟨e1, _⟩ | ⟨_, e1, e2⟩
                        · rw [e1] at c215; exact absurd c215 (by decide)
                        refine lv_iconst (v := nI 0) S.1 S.2.1 dX1_takeSum_218 (by decide) ?_
                        rw [← e2] at hpc
                        exact rt_z S hr hlk hH dX1_takeSum_219 (by decide) (⟨rfl, hF, Or.inr ⟨rfl, hts.trans (tsum_none c28 (by omega) (nxtA hi hj) e1), acc, hpc⟩⟩)
                    · skip
                      first | exact absurd c185 (by decide) | exact absurd rfl c185
              · skip
                exfalso; omega
            · skip
              exfalso; omega
        · skip
          have hby := oky j hj
          have hbs := sg_b hsg hby.2
          refine lv_iload S.1 S.2.1 dX1_takeSum_49 (lv_at hl 4 rfl) ?_
          refine lv_aload_n S.1 S.2.1 dX1_takeSum_51 rfl (lv_at hl 1 rfl) ?_
          refine gfX1_28 S hK hH hx0 dX1_takeSum_52 ?_
          refine bn_ge (tgt := 89) S dX1_takeSum_55 (by decide) (by omega) (fun c55 => ?_) (fun c55 => ?_)
          · skip
            refine lv_iconst (v := nI 0) S.1 S.2.1 dX1_takeSum_89 (by decide) ?_
            refine lv_istore (lv' := [(8, .int (nI 0)), (0, .ref (t)), (1, .ref (x)), (2, .ref (y)), (3, .int (iI sg)), (4, .int (nI i)), (5, .int (nI j)), (6, .int (nI (X.length + Y.length))), (7, .int (nI u))]) S.1 S.2.1 dX1_takeSum_90 hl (by decide) rfl (fun ls hl => ?_)
            refine lv_iload S.1 S.2.1 dX1_takeSum_92 (lv_at hl 6 rfl) ?_
            refine lv_aload_n S.1 S.2.1 dX1_takeSum_94 rfl (lv_at hl 3 rfl) ?_
            refine gfX1_28 S hK hH hy0 dX1_takeSum_95 ?_
            refine bn_ge (tgt := 132) S dX1_takeSum_98 (by decide) (by omega) (fun c98 => ?_) (fun c98 => ?_)
            · skip
              exfalso; omega
            · skip
              refine lv_iload S.1 S.2.1 dX1_takeSum_101 (lv_at hl 5 rfl) ?_
              refine lv_aload_n S.1 S.2.1 dX1_takeSum_103 rfl (lv_at hl 2 rfl) ?_
              refine gfX1_28 S hK hH hx0 dX1_takeSum_104 ?_
              refine bn_ge (tgt := 128) S dX1_takeSum_107 (by decide) (by omega) (fun c107 => ?_) (fun c107 => ?_)
              · skip
                refine lv_iconst (v := nI 1) S.1 S.2.1 dX1_takeSum_128 (by decide) ?_
                refine lv_goto (tgt := 133) S.1 S.2.1 dX1_takeSum_129 (by decide) ?_
                refine lv_istore (lv' := [(9, .int (nI 1)), (8, .int (nI 0)), (0, .ref (t)), (1, .ref (x)), (2, .ref (y)), (3, .int (iI sg)), (4, .int (nI i)), (5, .int (nI j)), (6, .int (nI (X.length + Y.length))), (7, .int (nI u))]) S.1 S.2.1 dX1_takeSum_133 hl (by decide) rfl (fun ls hl => ?_)
                refine lv_iload S.1 S.2.1 dX1_takeSum_135 (lv_at hl 1 rfl) ?_
                refine lv_if_eq (tgt := 150) S.1 S.2.1 dX1_takeSum_137 (by decide) (fun c137 => ?_) (fun c137 => ?_)
                · skip
                  refine lv_aload_n S.1 S.2.1 dX1_takeSum_150 rfl (lv_at hl 4 rfl) ?_
                  refine gfX1_18 S hK hH hy0 dX1_takeSum_151 ?_
                  refine lv_iload S.1 S.2.1 dX1_takeSum_154 (lv_at hl 7 rfl) ?_
                  refine ald_l S hK hH hya (by omega) (by omega) dX1_takeSum_156 ?_
                  refine tpl (x' := lN (cd Y j)) (hy6 j hj) ?_
                  refine lv_lstore (lv' := [(10, .long (lN (cd Y j))), (9, .int (nI 1)), (8, .int (nI 0)), (0, .ref (t)), (1, .ref (x)), (2, .ref (y)), (3, .int (iI sg)), (4, .int (nI i)), (5, .int (nI j)), (6, .int (nI (X.length + Y.length))), (7, .int (nI u))]) S.1 S.2.1 dX1_takeSum_157 hl (by decide) rfl (fun ls hl => ?_)
                  refine lv_lconst (v := lI 0) S.1 S.2.1 dX1_takeSum_159 (by decide) ?_
                  refine lv_lstore (lv' := [(12, .long (lI 0)), (10, .long (lN (cd Y j))), (9, .int (nI 1)), (8, .int (nI 0)), (0, .ref (t)), (1, .ref (x)), (2, .ref (y)), (3, .int (iI sg)), (4, .int (nI i)), (5, .int (nI j)), (6, .int (nI (X.length + Y.length))), (7, .int (nI u))]) S.1 S.2.1 dX1_takeSum_160 hl (by decide) rfl (fun ls hl => ?_)
                  refine lv_iload S.1 S.2.1 dX1_takeSum_162 (lv_at hl 3 rfl) ?_
                  refine lv_if_eq (tgt := 183) S.1 S.2.1 dX1_takeSum_164 (by decide) (fun c164 => ?_) (fun c164 => ?_)
                  · skip
                    refine lv_iload S.1 S.2.1 dX1_takeSum_183 (lv_at hl 2 rfl) ?_
                    refine lv_if_eq (tgt := 207) S.1 S.2.1 dX1_takeSum_185 (by decide) (fun c185 => ?_) (fun c185 => ?_)
                    · skip
                      first | exact absurd c185 (by decide) | exact absurd rfl c185
                    · skip
                      refine lv_lload S.1 S.2.1 dX1_takeSum_188 (lv_at hl 0 rfl) ?_
                      refine lv_iload_n S.1 S.2.1 dX1_takeSum_190 rfl (lv_at hl 7 rfl) ?_
                      refine lv_i2l (v := lI (sg)) S.1 S.2.1 dX1_takeSum_191 (iI_l (by omega)) ?_
                      refine lv_aload_n S.1 S.2.1 dX1_takeSum_192 rfl (lv_at hl 6 rfl) ?_
                      refine gfX1_24 S hK hH hy0 dX1_takeSum_193 ?_
                      refine lv_iload S.1 S.2.1 dX1_takeSum_196 (lv_at hl 9 rfl) ?_
                      refine ald_i S hK hH hyb (by omega) (by omega) dX1_takeSum_198 ?_
                      refine tpi (x' := iI (cf Y j)) (hy7 j hj) ?_
                      refine lv_i2l (v := lI (cf Y j)) S.1 S.2.1 dX1_takeSum_199 (iI_l (by omega)) ?_
                      refine lv_lmul S.1 S.2.1 dX1_takeSum_200 ?_
                      refine tpl (x' := lI ((sg) * (cf Y j))) (lI_mul _ _) ?_
                      refine lv_ladd S.1 S.2.1 dX1_takeSum_201 ?_
                      refine tpl (x' := lI ((0) + ((sg) * (cf Y j)))) (lI_add _ _) ?_
                      refine lv_lstore (lv' := [(12, .long (lI ((0) + ((sg) * (cf Y j))))), (10, .long (lN (cd Y j))), (9, .int (nI 1)), (8, .int (nI 0)), (0, .ref (t)), (1, .ref (x)), (2, .ref (y)), (3, .int (iI sg)), (4, .int (nI i)), (5, .int (nI j)), (6, .int (nI (X.length + Y.length))), (7, .int (nI u))]) S.1 S.2.1 dX1_takeSum_202 hl (by decide) rfl (fun ls hl => ?_)
                      refine lv_iinc (v := nI (j + 1)) (lv' := [(5, .int (nI (j + 1))), (12, .long (lI ((0) + ((sg) * (cf Y j))))), (10, .long (lN (cd Y j))), (9, .int (nI 1)), (8, .int (nI 0)), (0, .ref (t)), (1, .ref (x)), (2, .ref (y)), (3, .int (iI sg)), (4, .int (nI i)), (6, .int (nI (X.length + Y.length))), (7, .int (nI u))]) S.1 S.2.1 dX1_takeSum_204 hl (k := 9) rfl (nI_inc _ 1) (by decide) rfl (fun ls hl => ?_)
                      refine lv_aload_n S.1 S.2.1 dX1_takeSum_207 rfl (lv_at hl 5 rfl) ?_
                      refine lv_lload S.1 S.2.1 dX1_takeSum_208 (lv_at hl 2 rfl) ?_
                      refine lv_lload S.1 S.2.1 dX1_takeSum_210 (lv_at hl 1 rfl) ?_
                      refine ck_i (run_V (As := [.long (lN (cd Y j)), .long (lI ((0) + ((sg) * (cf Y j))))]) (rest := []) S hK hH (kX1_append t 60 (cd Y j) acc ((0) + ((sg) * (cf Y j))) 0 tp hpc (by omega)) ceX1_append mW130 hpc.ob rfl rfl hl.1 rfl (Nat.le_of_ble_eq_true rfl) dX1_takeSum_212 ⟨rfl, rfl, by decide, by decide⟩ ⟨show 0 + 0 ≤ 0 by omega, show 0 + 0 ≤ 0 by omega⟩) hH (fun r212 w8 n8 H locs hp hH => ?_)
                      obtain ⟨hn1, hfr, hq⟩ := hp
                      rw [hn1] at hH
                      replace hx0 := (hfr (x) (by omega)).trans hx0
                      replace hxa := (hfr (x + 1) (by omega)).trans hxa
                      replace hxb := (hfr (x + 2) (by omega)).trans hxb
                      replace hy0 := (hfr (y) (by omega)).trans hy0
                      replace hya := (hfr (y + 1) (by omega)).trans hya
                      replace hyb := (hfr (y + 2) (by omega)).trans hyb
                      replace hF : ∀ b, b < t ∨ t + 3 ≤ b → w8 b = w b := fun b hb => (hfr b (by omega)).trans (hF b hb)
                      refine lv_if_ne (tgt := 220) S.1 S.2.1 dX1_takeSum_215 (by decide) (fun c215 => ?_) (fun c215 => ?_)
                      · skip
                        rcases hq with ⟨_, L', e1, hpc⟩ | ⟨e1, _⟩
                        rotate_left
                        · exact absurd e1 c215
                        refine lv_iinc (v := nI (u + 1)) (lv' := [(7, .int (nI (u + 1))), (5, .int (nI (j + 1))), (12, .long (lI ((0) + ((sg) * (cf Y j))))), (10, .long (lN (cd Y j))), (9, .int (nI 1)), (8, .int (nI 0)), (0, .ref (t)), (1, .ref (x)), (2, .ref (y)), (3, .int (iI sg)), (4, .int (nI i)), (6, .int (nI (X.length + Y.length)))]) S.1 S.2.1 dX1_takeSum_220 hl (k := 11) rfl (nI_inc _ 1) (by decide) rfl (fun ls hl => ?_)
                        refine lv_goto (tgt := 24) S.1 S.2.1 dX1_takeSum_223 (by decide) ?_
                        exact ih24 _ _ _ _ (by omega) ⟨u + 1, i, j + 1, L', w8, lv_sub hl [6, 7, 8, 9, 10, 1, 11, 0] rfl, hH, hx0, hxa, hxb, hy0, hya, hyb, hpc, hF, by omega, by omega, by omega, hts.trans (tsum_some c28 (by omega) (nxtB hi hj) e1), rfl⟩
                      · skip
                        rcases hq with ⟨e1, _⟩ | ⟨_, e1, e2⟩
                        · rw [e1] at c215; exact absurd c215 (by decide)
                        refine lv_iconst (v := nI 0) S.1 S.2.1 dX1_takeSum_218 (by decide) ?_
                        rw [← e2] at hpc
                        exact rt_z S hr hlk hH dX1_takeSum_219 (by decide) (⟨rfl, hF, Or.inr ⟨rfl, hts.trans (tsum_none c28 (by omega) (nxtB hi hj) e1), acc, hpc⟩⟩)
                  · skip
                    first | exact absurd c164 (by decide) | exact absurd rfl c164
                · skip
                  first | exact absurd c137 (by decide) | exact absurd rfl c137
              · skip
                exfalso; omega
          · skip
            exfalso; omega
        · skip
          have hbx := okx i hi
          have hby := oky j hj
          refine lv_iload S.1 S.2.1 dX1_takeSum_49 (lv_at hl 4 rfl) ?_
          refine lv_aload_n S.1 S.2.1 dX1_takeSum_51 rfl (lv_at hl 1 rfl) ?_
          refine gfX1_28 S hK hH hx0 dX1_takeSum_52 ?_
          refine bn_ge (tgt := 89) S dX1_takeSum_55 (by decide) (by omega) (fun c55 => ?_) (fun c55 => ?_)
          · skip
            exfalso; omega
          · skip
            refine lv_iload S.1 S.2.1 dX1_takeSum_58 (lv_at hl 5 rfl) ?_
            refine lv_aload_n S.1 S.2.1 dX1_takeSum_60 rfl (lv_at hl 2 rfl) ?_
            refine gfX1_28 S hK hH hy0 dX1_takeSum_61 ?_
            refine bn_ge (tgt := 85) S dX1_takeSum_64 (by decide) (by omega) (fun c64 => ?_) (fun c64 => ?_)
            · skip
              exfalso; omega
            · skip
              refine lv_aload_n S.1 S.2.1 dX1_takeSum_67 rfl (lv_at hl 1 rfl) ?_
              refine gfX1_18 S hK hH hx0 dX1_takeSum_68 ?_
              refine lv_iload S.1 S.2.1 dX1_takeSum_71 (lv_at hl 4 rfl) ?_
              refine ald_l S hK hH hxa (by omega) (by omega) dX1_takeSum_73 ?_
              refine tpl (x' := lN (cd X i)) (hx6 i hi) ?_
              refine lv_aload_n S.1 S.2.1 dX1_takeSum_74 rfl (lv_at hl 2 rfl) ?_
              refine gfX1_18 S hK hH hy0 dX1_takeSum_75 ?_
              refine lv_iload S.1 S.2.1 dX1_takeSum_78 (lv_at hl 5 rfl) ?_
              refine ald_l S hK hH hya (by omega) (by omega) dX1_takeSum_80 ?_
              refine tpl (x' := lN (cd Y j)) (hy6 j hj) ?_
              refine bl_lt (tgt := 89) S dX1_takeSum_81 dX1_takeSum_82 (by decide) (fun c81 => ?_) (fun c81 => ?_)
              · skip
                exfalso; rw [pk_lLT (by omega) (by omega)] at c81; omega
              · skip
                refine lv_iconst (v := nI 1) S.1 S.2.1 dX1_takeSum_85 (by decide) ?_
                refine lv_goto (tgt := 90) S.1 S.2.1 dX1_takeSum_86 (by decide) ?_
                refine lv_istore (lv' := [(8, .int (nI 1)), (0, .ref (t)), (1, .ref (x)), (2, .ref (y)), (3, .int (iI sg)), (4, .int (nI i)), (5, .int (nI j)), (6, .int (nI (X.length + Y.length))), (7, .int (nI u))]) S.1 S.2.1 dX1_takeSum_90 hl (by decide) rfl (fun ls hl => ?_)
                refine lv_iload S.1 S.2.1 dX1_takeSum_92 (lv_at hl 6 rfl) ?_
                refine lv_aload_n S.1 S.2.1 dX1_takeSum_94 rfl (lv_at hl 3 rfl) ?_
                refine gfX1_28 S hK hH hy0 dX1_takeSum_95 ?_
                refine bn_ge (tgt := 132) S dX1_takeSum_98 (by decide) (by omega) (fun c98 => ?_) (fun c98 => ?_)
                · skip
                  exfalso; omega
                · skip
                  refine lv_iload S.1 S.2.1 dX1_takeSum_101 (lv_at hl 5 rfl) ?_
                  refine lv_aload_n S.1 S.2.1 dX1_takeSum_103 rfl (lv_at hl 2 rfl) ?_
                  refine gfX1_28 S hK hH hx0 dX1_takeSum_104 ?_
                  refine bn_ge (tgt := 128) S dX1_takeSum_107 (by decide) (by omega) (fun c107 => ?_) (fun c107 => ?_)
                  · skip
                    exfalso; omega
                  · skip
                    refine lv_aload_n S.1 S.2.1 dX1_takeSum_110 rfl (lv_at hl 3 rfl) ?_
                    refine gfX1_18 S hK hH hy0 dX1_takeSum_111 ?_
                    refine lv_iload S.1 S.2.1 dX1_takeSum_114 (lv_at hl 6 rfl) ?_
                    refine ald_l S hK hH hya (by omega) (by omega) dX1_takeSum_116 ?_
                    refine tpl (x' := lN (cd Y j)) (hy6 j hj) ?_
                    refine lv_aload_n S.1 S.2.1 dX1_takeSum_117 rfl (lv_at hl 2 rfl) ?_
                    refine gfX1_18 S hK hH hx0 dX1_takeSum_118 ?_
                    refine lv_iload S.1 S.2.1 dX1_takeSum_121 (lv_at hl 5 rfl) ?_
                    refine ald_l S hK hH hxa (by omega) (by omega) dX1_takeSum_123 ?_
                    refine tpl (x' := lN (cd X i)) (hx6 i hi) ?_
                    refine bl_lt (tgt := 132) S dX1_takeSum_124 dX1_takeSum_125 (by decide) (fun c124 => ?_) (fun c124 => ?_)
                    · skip
                      refine lv_iconst (v := nI 0) S.1 S.2.1 dX1_takeSum_132 (by decide) ?_
                      refine lv_istore (lv' := [(9, .int (nI 0)), (8, .int (nI 1)), (0, .ref (t)), (1, .ref (x)), (2, .ref (y)), (3, .int (iI sg)), (4, .int (nI i)), (5, .int (nI j)), (6, .int (nI (X.length + Y.length))), (7, .int (nI u))]) S.1 S.2.1 dX1_takeSum_133 hl (by decide) rfl (fun ls hl => ?_)
                      refine lv_iload S.1 S.2.1 dX1_takeSum_135 (lv_at hl 1 rfl) ?_
                      refine lv_if_eq (tgt := 150) S.1 S.2.1 dX1_takeSum_137 (by decide) (fun c137 => ?_) (fun c137 => ?_)
                      · skip
                        first | exact absurd c137 (by decide) | exact absurd rfl c137
                      · skip
                        refine lv_aload_n S.1 S.2.1 dX1_takeSum_140 rfl (lv_at hl 3 rfl) ?_
                        refine gfX1_18 S hK hH hx0 dX1_takeSum_141 ?_
                        refine lv_iload S.1 S.2.1 dX1_takeSum_144 (lv_at hl 6 rfl) ?_
                        refine ald_l S hK hH hxa (by omega) (by omega) dX1_takeSum_146 ?_
                        refine tpl (x' := lN (cd X i)) (hx6 i hi) ?_
                        refine lv_goto (tgt := 157) S.1 S.2.1 dX1_takeSum_147 (by decide) ?_
                        refine lv_lstore (lv' := [(10, .long (lN (cd X i))), (9, .int (nI 0)), (8, .int (nI 1)), (0, .ref (t)), (1, .ref (x)), (2, .ref (y)), (3, .int (iI sg)), (4, .int (nI i)), (5, .int (nI j)), (6, .int (nI (X.length + Y.length))), (7, .int (nI u))]) S.1 S.2.1 dX1_takeSum_157 hl (by decide) rfl (fun ls hl => ?_)
                        refine lv_lconst (v := lI 0) S.1 S.2.1 dX1_takeSum_159 (by decide) ?_
                        refine lv_lstore (lv' := [(12, .long (lI 0)), (10, .long (lN (cd X i))), (9, .int (nI 0)), (8, .int (nI 1)), (0, .ref (t)), (1, .ref (x)), (2, .ref (y)), (3, .int (iI sg)), (4, .int (nI i)), (5, .int (nI j)), (6, .int (nI (X.length + Y.length))), (7, .int (nI u))]) S.1 S.2.1 dX1_takeSum_160 hl (by decide) rfl (fun ls hl => ?_)
                        refine lv_iload S.1 S.2.1 dX1_takeSum_162 (lv_at hl 3 rfl) ?_
                        refine lv_if_eq (tgt := 183) S.1 S.2.1 dX1_takeSum_164 (by decide) (fun c164 => ?_) (fun c164 => ?_)
                        · skip
                          first | exact absurd c164 (by decide) | exact absurd rfl c164
                        · skip
                          refine lv_lload S.1 S.2.1 dX1_takeSum_167 (lv_at hl 0 rfl) ?_
                          refine lv_aload_n S.1 S.2.1 dX1_takeSum_169 rfl (lv_at hl 5 rfl) ?_
                          refine gfX1_24 S hK hH hx0 dX1_takeSum_170 ?_
                          refine lv_iload S.1 S.2.1 dX1_takeSum_173 (lv_at hl 8 rfl) ?_
                          refine ald_i S hK hH hxb (by omega) (by omega) dX1_takeSum_175 ?_
                          refine tpi (x' := iI (cf X i)) (hx7 i hi) ?_
                          refine lv_i2l (v := lI (cf X i)) S.1 S.2.1 dX1_takeSum_176 (iI_l (by omega)) ?_
                          refine lv_ladd S.1 S.2.1 dX1_takeSum_177 ?_
                          refine tpl (x' := lI ((0) + (cf X i))) (lI_add _ _) ?_
                          refine lv_lstore (lv' := [(12, .long (lI ((0) + (cf X i)))), (10, .long (lN (cd X i))), (9, .int (nI 0)), (8, .int (nI 1)), (0, .ref (t)), (1, .ref (x)), (2, .ref (y)), (3, .int (iI sg)), (4, .int (nI i)), (5, .int (nI j)), (6, .int (nI (X.length + Y.length))), (7, .int (nI u))]) S.1 S.2.1 dX1_takeSum_178 hl (by decide) rfl (fun ls hl => ?_)
                          refine lv_iinc (v := nI (i + 1)) (lv' := [(4, .int (nI (i + 1))), (12, .long (lI ((0) + (cf X i)))), (10, .long (lN (cd X i))), (9, .int (nI 0)), (8, .int (nI 1)), (0, .ref (t)), (1, .ref (x)), (2, .ref (y)), (3, .int (iI sg)), (5, .int (nI j)), (6, .int (nI (X.length + Y.length))), (7, .int (nI u))]) S.1 S.2.1 dX1_takeSum_180 hl (k := 8) rfl (nI_inc _ 1) (by decide) rfl (fun ls hl => ?_)
                          refine lv_iload S.1 S.2.1 dX1_takeSum_183 (lv_at hl 3 rfl) ?_
                          refine lv_if_eq (tgt := 207) S.1 S.2.1 dX1_takeSum_185 (by decide) (fun c185 => ?_) (fun c185 => ?_)
                          · skip
                            refine lv_aload_n S.1 S.2.1 dX1_takeSum_207 rfl (lv_at hl 5 rfl) ?_
                            refine lv_lload S.1 S.2.1 dX1_takeSum_208 (lv_at hl 2 rfl) ?_
                            refine lv_lload S.1 S.2.1 dX1_takeSum_210 (lv_at hl 1 rfl) ?_
                            refine ck_i (run_V (As := [.long (lN (cd X i)), .long (lI ((0) + (cf X i)))]) (rest := []) S hK hH (kX1_append t 60 (cd X i) acc ((0) + (cf X i)) 0 tp hpc (by omega)) ceX1_append mW130 hpc.ob rfl rfl hl.1 rfl (Nat.le_of_ble_eq_true rfl) dX1_takeSum_212 ⟨rfl, rfl, by decide, by decide⟩ ⟨show 0 + 0 ≤ 0 by omega, show 0 + 0 ≤ 0 by omega⟩) hH (fun r212 w9 n9 H locs hp hH => ?_)
                            obtain ⟨hn1, hfr, hq⟩ := hp
                            rw [hn1] at hH
                            replace hx0 := (hfr (x) (by omega)).trans hx0
                            replace hxa := (hfr (x + 1) (by omega)).trans hxa
                            replace hxb := (hfr (x + 2) (by omega)).trans hxb
                            replace hy0 := (hfr (y) (by omega)).trans hy0
                            replace hya := (hfr (y + 1) (by omega)).trans hya
                            replace hyb := (hfr (y + 2) (by omega)).trans hyb
                            replace hF : ∀ b, b < t ∨ t + 3 ≤ b → w9 b = w b := fun b hb => (hfr b (by omega)).trans (hF b hb)
                            refine lv_if_ne (tgt := 220) S.1 S.2.1 dX1_takeSum_215 (by decide) (fun c215 => ?_) (fun c215 => ?_)
                            · skip
                              rcases hq with ⟨_, L', e1, hpc⟩ | ⟨e1, _⟩
                              rotate_left
                              · exact absurd e1 c215
                              refine lv_iinc (v := nI (u + 1)) (lv' := [(7, .int (nI (u + 1))), (4, .int (nI (i + 1))), (12, .long (lI ((0) + (cf X i)))), (10, .long (lN (cd X i))), (9, .int (nI 0)), (8, .int (nI 1)), (0, .ref (t)), (1, .ref (x)), (2, .ref (y)), (3, .int (iI sg)), (5, .int (nI j)), (6, .int (nI (X.length + Y.length)))]) S.1 S.2.1 dX1_takeSum_220 hl (k := 11) rfl (nI_inc _ 1) (by decide) rfl (fun ls hl => ?_)
                              refine lv_goto (tgt := 24) S.1 S.2.1 dX1_takeSum_223 (by decide) ?_
                              exact ih24 _ _ _ _ (by omega) ⟨u + 1, i + 1, j, L', w9, lv_sub hl [6, 7, 8, 9, 1, 10, 11, 0] rfl, hH, hx0, hxa, hxb, hy0, hya, hyb, hpc, hF, by omega, by omega, by omega, hts.trans (tsum_some c28 (by omega) (nxtC hi hj hc) e1), rfl⟩
                            · skip
                              rcases hq with ⟨e1, _⟩ | ⟨_, e1, e2⟩
                              · rw [e1] at c215; exact absurd c215 (by decide)
                              refine lv_iconst (v := nI 0) S.1 S.2.1 dX1_takeSum_218 (by decide) ?_
                              rw [← e2] at hpc
                              exact rt_z S hr hlk hH dX1_takeSum_219 (by decide) (⟨rfl, hF, Or.inr ⟨rfl, hts.trans (tsum_none c28 (by omega) (nxtC hi hj hc) e1), acc, hpc⟩⟩)
                          · skip
                            first | exact absurd c185 (by decide) | exact absurd rfl c185
                    · skip
                      exfalso; rw [pk_lLT (by omega) (by omega)] at c124; omega
        · skip
          have hbx := okx i hi
          have hby := oky j hj
          have hbs := sg_b hsg hby.2
          refine lv_iload S.1 S.2.1 dX1_takeSum_49 (lv_at hl 4 rfl) ?_
          refine lv_aload_n S.1 S.2.1 dX1_takeSum_51 rfl (lv_at hl 1 rfl) ?_
          refine gfX1_28 S hK hH hx0 dX1_takeSum_52 ?_
          refine bn_ge (tgt := 89) S dX1_takeSum_55 (by decide) (by omega) (fun c55 => ?_) (fun c55 => ?_)
          · skip
            exfalso; omega
          · skip
            refine lv_iload S.1 S.2.1 dX1_takeSum_58 (lv_at hl 5 rfl) ?_
            refine lv_aload_n S.1 S.2.1 dX1_takeSum_60 rfl (lv_at hl 2 rfl) ?_
            refine gfX1_28 S hK hH hy0 dX1_takeSum_61 ?_
            refine bn_ge (tgt := 85) S dX1_takeSum_64 (by decide) (by omega) (fun c64 => ?_) (fun c64 => ?_)
            · skip
              exfalso; omega
            · skip
              refine lv_aload_n S.1 S.2.1 dX1_takeSum_67 rfl (lv_at hl 1 rfl) ?_
              refine gfX1_18 S hK hH hx0 dX1_takeSum_68 ?_
              refine lv_iload S.1 S.2.1 dX1_takeSum_71 (lv_at hl 4 rfl) ?_
              refine ald_l S hK hH hxa (by omega) (by omega) dX1_takeSum_73 ?_
              refine tpl (x' := lN (cd X i)) (hx6 i hi) ?_
              refine lv_aload_n S.1 S.2.1 dX1_takeSum_74 rfl (lv_at hl 2 rfl) ?_
              refine gfX1_18 S hK hH hy0 dX1_takeSum_75 ?_
              refine lv_iload S.1 S.2.1 dX1_takeSum_78 (lv_at hl 5 rfl) ?_
              refine ald_l S hK hH hya (by omega) (by omega) dX1_takeSum_80 ?_
              refine tpl (x' := lN (cd Y j)) (hy6 j hj) ?_
              refine bl_lt (tgt := 89) S dX1_takeSum_81 dX1_takeSum_82 (by decide) (fun c81 => ?_) (fun c81 => ?_)
              · skip
                exfalso; rw [pk_lLT (by omega) (by omega)] at c81; omega
              · skip
                refine lv_iconst (v := nI 1) S.1 S.2.1 dX1_takeSum_85 (by decide) ?_
                refine lv_goto (tgt := 90) S.1 S.2.1 dX1_takeSum_86 (by decide) ?_
                refine lv_istore (lv' := [(8, .int (nI 1)), (0, .ref (t)), (1, .ref (x)), (2, .ref (y)), (3, .int (iI sg)), (4, .int (nI i)), (5, .int (nI j)), (6, .int (nI (X.length + Y.length))), (7, .int (nI u))]) S.1 S.2.1 dX1_takeSum_90 hl (by decide) rfl (fun ls hl => ?_)
                refine lv_iload S.1 S.2.1 dX1_takeSum_92 (lv_at hl 6 rfl) ?_
                refine lv_aload_n S.1 S.2.1 dX1_takeSum_94 rfl (lv_at hl 3 rfl) ?_
                refine gfX1_28 S hK hH hy0 dX1_takeSum_95 ?_
                refine bn_ge (tgt := 132) S dX1_takeSum_98 (by decide) (by omega) (fun c98 => ?_) (fun c98 => ?_)
                · skip
                  exfalso; omega
                · skip
                  refine lv_iload S.1 S.2.1 dX1_takeSum_101 (lv_at hl 5 rfl) ?_
                  refine lv_aload_n S.1 S.2.1 dX1_takeSum_103 rfl (lv_at hl 2 rfl) ?_
                  refine gfX1_28 S hK hH hx0 dX1_takeSum_104 ?_
                  refine bn_ge (tgt := 128) S dX1_takeSum_107 (by decide) (by omega) (fun c107 => ?_) (fun c107 => ?_)
                  · skip
                    exfalso; omega
                  · skip
                    refine lv_aload_n S.1 S.2.1 dX1_takeSum_110 rfl (lv_at hl 3 rfl) ?_
                    refine gfX1_18 S hK hH hy0 dX1_takeSum_111 ?_
                    refine lv_iload S.1 S.2.1 dX1_takeSum_114 (lv_at hl 6 rfl) ?_
                    refine ald_l S hK hH hya (by omega) (by omega) dX1_takeSum_116 ?_
                    refine tpl (x' := lN (cd Y j)) (hy6 j hj) ?_
                    refine lv_aload_n S.1 S.2.1 dX1_takeSum_117 rfl (lv_at hl 2 rfl) ?_
                    refine gfX1_18 S hK hH hx0 dX1_takeSum_118 ?_
                    refine lv_iload S.1 S.2.1 dX1_takeSum_121 (lv_at hl 5 rfl) ?_
                    refine ald_l S hK hH hxa (by omega) (by omega) dX1_takeSum_123 ?_
                    refine tpl (x' := lN (cd X i)) (hx6 i hi) ?_
                    refine bl_lt (tgt := 132) S dX1_takeSum_124 dX1_takeSum_125 (by decide) (fun c124 => ?_) (fun c124 => ?_)
                    · skip
                      exfalso; rw [pk_lLT (by omega) (by omega)] at c124; omega
                    · skip
                      refine lv_iconst (v := nI 1) S.1 S.2.1 dX1_takeSum_128 (by decide) ?_
                      refine lv_goto (tgt := 133) S.1 S.2.1 dX1_takeSum_129 (by decide) ?_
                      refine lv_istore (lv' := [(9, .int (nI 1)), (8, .int (nI 1)), (0, .ref (t)), (1, .ref (x)), (2, .ref (y)), (3, .int (iI sg)), (4, .int (nI i)), (5, .int (nI j)), (6, .int (nI (X.length + Y.length))), (7, .int (nI u))]) S.1 S.2.1 dX1_takeSum_133 hl (by decide) rfl (fun ls hl => ?_)
                      refine lv_iload S.1 S.2.1 dX1_takeSum_135 (lv_at hl 1 rfl) ?_
                      refine lv_if_eq (tgt := 150) S.1 S.2.1 dX1_takeSum_137 (by decide) (fun c137 => ?_) (fun c137 => ?_)
                      · skip
                        first | exact absurd c137 (by decide) | exact absurd rfl c137
                      · skip
                        refine lv_aload_n S.1 S.2.1 dX1_takeSum_140 rfl (lv_at hl 3 rfl) ?_
                        refine gfX1_18 S hK hH hx0 dX1_takeSum_141 ?_
                        refine lv_iload S.1 S.2.1 dX1_takeSum_144 (lv_at hl 6 rfl) ?_
                        refine ald_l S hK hH hxa (by omega) (by omega) dX1_takeSum_146 ?_
                        refine tpl (x' := lN (cd X i)) (hx6 i hi) ?_
                        refine lv_goto (tgt := 157) S.1 S.2.1 dX1_takeSum_147 (by decide) ?_
                        refine lv_lstore (lv' := [(10, .long (lN (cd X i))), (9, .int (nI 1)), (8, .int (nI 1)), (0, .ref (t)), (1, .ref (x)), (2, .ref (y)), (3, .int (iI sg)), (4, .int (nI i)), (5, .int (nI j)), (6, .int (nI (X.length + Y.length))), (7, .int (nI u))]) S.1 S.2.1 dX1_takeSum_157 hl (by decide) rfl (fun ls hl => ?_)
                        refine lv_lconst (v := lI 0) S.1 S.2.1 dX1_takeSum_159 (by decide) ?_
                        refine lv_lstore (lv' := [(12, .long (lI 0)), (10, .long (lN (cd X i))), (9, .int (nI 1)), (8, .int (nI 1)), (0, .ref (t)), (1, .ref (x)), (2, .ref (y)), (3, .int (iI sg)), (4, .int (nI i)), (5, .int (nI j)), (6, .int (nI (X.length + Y.length))), (7, .int (nI u))]) S.1 S.2.1 dX1_takeSum_160 hl (by decide) rfl (fun ls hl => ?_)
                        refine lv_iload S.1 S.2.1 dX1_takeSum_162 (lv_at hl 3 rfl) ?_
                        refine lv_if_eq (tgt := 183) S.1 S.2.1 dX1_takeSum_164 (by decide) (fun c164 => ?_) (fun c164 => ?_)
                        · skip
                          first | exact absurd c164 (by decide) | exact absurd rfl c164
                        · skip
                          refine lv_lload S.1 S.2.1 dX1_takeSum_167 (lv_at hl 0 rfl) ?_
                          refine lv_aload_n S.1 S.2.1 dX1_takeSum_169 rfl (lv_at hl 5 rfl) ?_
                          refine gfX1_24 S hK hH hx0 dX1_takeSum_170 ?_
                          refine lv_iload S.1 S.2.1 dX1_takeSum_173 (lv_at hl 8 rfl) ?_
                          refine ald_i S hK hH hxb (by omega) (by omega) dX1_takeSum_175 ?_
                          refine tpi (x' := iI (cf X i)) (hx7 i hi) ?_
                          refine lv_i2l (v := lI (cf X i)) S.1 S.2.1 dX1_takeSum_176 (iI_l (by omega)) ?_
                          refine lv_ladd S.1 S.2.1 dX1_takeSum_177 ?_
                          refine tpl (x' := lI ((0) + (cf X i))) (lI_add _ _) ?_
                          refine lv_lstore (lv' := [(12, .long (lI ((0) + (cf X i)))), (10, .long (lN (cd X i))), (9, .int (nI 1)), (8, .int (nI 1)), (0, .ref (t)), (1, .ref (x)), (2, .ref (y)), (3, .int (iI sg)), (4, .int (nI i)), (5, .int (nI j)), (6, .int (nI (X.length + Y.length))), (7, .int (nI u))]) S.1 S.2.1 dX1_takeSum_178 hl (by decide) rfl (fun ls hl => ?_)
                          refine lv_iinc (v := nI (i + 1)) (lv' := [(4, .int (nI (i + 1))), (12, .long (lI ((0) + (cf X i)))), (10, .long (lN (cd X i))), (9, .int (nI 1)), (8, .int (nI 1)), (0, .ref (t)), (1, .ref (x)), (2, .ref (y)), (3, .int (iI sg)), (5, .int (nI j)), (6, .int (nI (X.length + Y.length))), (7, .int (nI u))]) S.1 S.2.1 dX1_takeSum_180 hl (k := 8) rfl (nI_inc _ 1) (by decide) rfl (fun ls hl => ?_)
                          refine lv_iload S.1 S.2.1 dX1_takeSum_183 (lv_at hl 3 rfl) ?_
                          refine lv_if_eq (tgt := 207) S.1 S.2.1 dX1_takeSum_185 (by decide) (fun c185 => ?_) (fun c185 => ?_)
                          · skip
                            first | exact absurd c185 (by decide) | exact absurd rfl c185
                          · skip
                            refine lv_lload S.1 S.2.1 dX1_takeSum_188 (lv_at hl 1 rfl) ?_
                            refine lv_iload_n S.1 S.2.1 dX1_takeSum_190 rfl (lv_at hl 8 rfl) ?_
                            refine lv_i2l (v := lI (sg)) S.1 S.2.1 dX1_takeSum_191 (iI_l (by omega)) ?_
                            refine lv_aload_n S.1 S.2.1 dX1_takeSum_192 rfl (lv_at hl 7 rfl) ?_
                            refine gfX1_24 S hK hH hy0 dX1_takeSum_193 ?_
                            refine lv_iload S.1 S.2.1 dX1_takeSum_196 (lv_at hl 9 rfl) ?_
                            refine ald_i S hK hH hyb (by omega) (by omega) dX1_takeSum_198 ?_
                            refine tpi (x' := iI (cf Y j)) (hy7 j hj) ?_
                            refine lv_i2l (v := lI (cf Y j)) S.1 S.2.1 dX1_takeSum_199 (iI_l (by omega)) ?_
                            refine lv_lmul S.1 S.2.1 dX1_takeSum_200 ?_
                            refine tpl (x' := lI ((sg) * (cf Y j))) (lI_mul _ _) ?_
                            refine lv_ladd S.1 S.2.1 dX1_takeSum_201 ?_
                            refine tpl (x' := lI (((0) + (cf X i)) + ((sg) * (cf Y j)))) (lI_add _ _) ?_
                            refine lv_lstore (lv' := [(12, .long (lI (((0) + (cf X i)) + ((sg) * (cf Y j))))), (4, .int (nI (i + 1))), (10, .long (lN (cd X i))), (9, .int (nI 1)), (8, .int (nI 1)), (0, .ref (t)), (1, .ref (x)), (2, .ref (y)), (3, .int (iI sg)), (5, .int (nI j)), (6, .int (nI (X.length + Y.length))), (7, .int (nI u))]) S.1 S.2.1 dX1_takeSum_202 hl (by decide) rfl (fun ls hl => ?_)
                            refine lv_iinc (v := nI (j + 1)) (lv' := [(5, .int (nI (j + 1))), (12, .long (lI (((0) + (cf X i)) + ((sg) * (cf Y j))))), (4, .int (nI (i + 1))), (10, .long (lN (cd X i))), (9, .int (nI 1)), (8, .int (nI 1)), (0, .ref (t)), (1, .ref (x)), (2, .ref (y)), (3, .int (iI sg)), (6, .int (nI (X.length + Y.length))), (7, .int (nI u))]) S.1 S.2.1 dX1_takeSum_204 hl (k := 9) rfl (nI_inc _ 1) (by decide) rfl (fun ls hl => ?_)
                            refine lv_aload_n S.1 S.2.1 dX1_takeSum_207 rfl (lv_at hl 6 rfl) ?_
                            refine lv_lload S.1 S.2.1 dX1_takeSum_208 (lv_at hl 3 rfl) ?_
                            refine lv_lload S.1 S.2.1 dX1_takeSum_210 (lv_at hl 1 rfl) ?_
                            refine ck_i (run_V (As := [.long (lN (cd X i)), .long (lI (((0) + (cf X i)) + ((sg) * (cf Y j))))]) (rest := []) S hK hH (kX1_append t 60 (cd X i) acc (((0) + (cf X i)) + ((sg) * (cf Y j))) 0 tp hpc (by omega)) ceX1_append mW130 hpc.ob rfl rfl hl.1 rfl (Nat.le_of_ble_eq_true rfl) dX1_takeSum_212 ⟨rfl, rfl, by decide, by decide⟩ ⟨show 0 + 0 ≤ 0 by omega, show 0 + 0 ≤ 0 by omega⟩) hH (fun r212 w10 n10 H locs hp hH => ?_)
                            obtain ⟨hn1, hfr, hq⟩ := hp
                            rw [hn1] at hH
                            replace hx0 := (hfr (x) (by omega)).trans hx0
                            replace hxa := (hfr (x + 1) (by omega)).trans hxa
                            replace hxb := (hfr (x + 2) (by omega)).trans hxb
                            replace hy0 := (hfr (y) (by omega)).trans hy0
                            replace hya := (hfr (y + 1) (by omega)).trans hya
                            replace hyb := (hfr (y + 2) (by omega)).trans hyb
                            replace hF : ∀ b, b < t ∨ t + 3 ≤ b → w10 b = w b := fun b hb => (hfr b (by omega)).trans (hF b hb)
                            refine lv_if_ne (tgt := 220) S.1 S.2.1 dX1_takeSum_215 (by decide) (fun c215 => ?_) (fun c215 => ?_)
                            · skip
                              rcases hq with ⟨_, L', e1, hpc⟩ | ⟨e1, _⟩
                              rotate_left
                              · exact absurd e1 c215
                              refine lv_iinc (v := nI (u + 1)) (lv' := [(7, .int (nI (u + 1))), (5, .int (nI (j + 1))), (12, .long (lI (((0) + (cf X i)) + ((sg) * (cf Y j))))), (4, .int (nI (i + 1))), (10, .long (lN (cd X i))), (9, .int (nI 1)), (8, .int (nI 1)), (0, .ref (t)), (1, .ref (x)), (2, .ref (y)), (3, .int (iI sg)), (6, .int (nI (X.length + Y.length)))]) S.1 S.2.1 dX1_takeSum_220 hl (k := 11) rfl (nI_inc _ 1) (by decide) rfl (fun ls hl => ?_)
                              refine lv_goto (tgt := 24) S.1 S.2.1 dX1_takeSum_223 (by decide) ?_
                              exact ih24 _ _ _ _ (by omega) ⟨u + 1, i + 1, j + 1, L', w10, lv_sub hl [7, 8, 9, 10, 3, 1, 11, 0] rfl, hH, hx0, hxa, hxb, hy0, hya, hyb, hpc, hF, by omega, by omega, by omega, hts.trans (tsum_some c28 (by omega) (nxtD hi hj hc) e1), rfl⟩
                            · skip
                              rcases hq with ⟨e1, _⟩ | ⟨_, e1, e2⟩
                              · rw [e1] at c215; exact absurd c215 (by decide)
                              refine lv_iconst (v := nI 0) S.1 S.2.1 dX1_takeSum_218 (by decide) ?_
                              rw [← e2] at hpc
                              exact rt_z S hr hlk hH dX1_takeSum_219 (by decide) (⟨rfl, hF, Or.inr ⟨rfl, hts.trans (tsum_none c28 (by omega) (nxtD hi hj hc) e1), acc, hpc⟩⟩)
        · skip
          have hbx := okx i hi
          have hby := oky j hj
          have hbs := sg_b hsg hby.2
          refine lv_iload S.1 S.2.1 dX1_takeSum_49 (lv_at hl 4 rfl) ?_
          refine lv_aload_n S.1 S.2.1 dX1_takeSum_51 rfl (lv_at hl 1 rfl) ?_
          refine gfX1_28 S hK hH hx0 dX1_takeSum_52 ?_
          refine bn_ge (tgt := 89) S dX1_takeSum_55 (by decide) (by omega) (fun c55 => ?_) (fun c55 => ?_)
          · skip
            exfalso; omega
          · skip
            refine lv_iload S.1 S.2.1 dX1_takeSum_58 (lv_at hl 5 rfl) ?_
            refine lv_aload_n S.1 S.2.1 dX1_takeSum_60 rfl (lv_at hl 2 rfl) ?_
            refine gfX1_28 S hK hH hy0 dX1_takeSum_61 ?_
            refine bn_ge (tgt := 85) S dX1_takeSum_64 (by decide) (by omega) (fun c64 => ?_) (fun c64 => ?_)
            · skip
              exfalso; omega
            · skip
              refine lv_aload_n S.1 S.2.1 dX1_takeSum_67 rfl (lv_at hl 1 rfl) ?_
              refine gfX1_18 S hK hH hx0 dX1_takeSum_68 ?_
              refine lv_iload S.1 S.2.1 dX1_takeSum_71 (lv_at hl 4 rfl) ?_
              refine ald_l S hK hH hxa (by omega) (by omega) dX1_takeSum_73 ?_
              refine tpl (x' := lN (cd X i)) (hx6 i hi) ?_
              refine lv_aload_n S.1 S.2.1 dX1_takeSum_74 rfl (lv_at hl 2 rfl) ?_
              refine gfX1_18 S hK hH hy0 dX1_takeSum_75 ?_
              refine lv_iload S.1 S.2.1 dX1_takeSum_78 (lv_at hl 5 rfl) ?_
              refine ald_l S hK hH hya (by omega) (by omega) dX1_takeSum_80 ?_
              refine tpl (x' := lN (cd Y j)) (hy6 j hj) ?_
              refine bl_lt (tgt := 89) S dX1_takeSum_81 dX1_takeSum_82 (by decide) (fun c81 => ?_) (fun c81 => ?_)
              · skip
                refine lv_iconst (v := nI 0) S.1 S.2.1 dX1_takeSum_89 (by decide) ?_
                refine lv_istore (lv' := [(8, .int (nI 0)), (0, .ref (t)), (1, .ref (x)), (2, .ref (y)), (3, .int (iI sg)), (4, .int (nI i)), (5, .int (nI j)), (6, .int (nI (X.length + Y.length))), (7, .int (nI u))]) S.1 S.2.1 dX1_takeSum_90 hl (by decide) rfl (fun ls hl => ?_)
                refine lv_iload S.1 S.2.1 dX1_takeSum_92 (lv_at hl 6 rfl) ?_
                refine lv_aload_n S.1 S.2.1 dX1_takeSum_94 rfl (lv_at hl 3 rfl) ?_
                refine gfX1_28 S hK hH hy0 dX1_takeSum_95 ?_
                refine bn_ge (tgt := 132) S dX1_takeSum_98 (by decide) (by omega) (fun c98 => ?_) (fun c98 => ?_)
                · skip
                  exfalso; omega
                · skip
                  refine lv_iload S.1 S.2.1 dX1_takeSum_101 (lv_at hl 5 rfl) ?_
                  refine lv_aload_n S.1 S.2.1 dX1_takeSum_103 rfl (lv_at hl 2 rfl) ?_
                  refine gfX1_28 S hK hH hx0 dX1_takeSum_104 ?_
                  refine bn_ge (tgt := 128) S dX1_takeSum_107 (by decide) (by omega) (fun c107 => ?_) (fun c107 => ?_)
                  · skip
                    exfalso; omega
                  · skip
                    refine lv_aload_n S.1 S.2.1 dX1_takeSum_110 rfl (lv_at hl 3 rfl) ?_
                    refine gfX1_18 S hK hH hy0 dX1_takeSum_111 ?_
                    refine lv_iload S.1 S.2.1 dX1_takeSum_114 (lv_at hl 6 rfl) ?_
                    refine ald_l S hK hH hya (by omega) (by omega) dX1_takeSum_116 ?_
                    refine tpl (x' := lN (cd Y j)) (hy6 j hj) ?_
                    refine lv_aload_n S.1 S.2.1 dX1_takeSum_117 rfl (lv_at hl 2 rfl) ?_
                    refine gfX1_18 S hK hH hx0 dX1_takeSum_118 ?_
                    refine lv_iload S.1 S.2.1 dX1_takeSum_121 (lv_at hl 5 rfl) ?_
                    refine ald_l S hK hH hxa (by omega) (by omega) dX1_takeSum_123 ?_
                    refine tpl (x' := lN (cd X i)) (hx6 i hi) ?_
                    refine bl_lt (tgt := 132) S dX1_takeSum_124 dX1_takeSum_125 (by decide) (fun c124 => ?_) (fun c124 => ?_)
                    · skip
                      exfalso; rw [pk_lLT (by omega) (by omega)] at c124; omega
                    · skip
                      refine lv_iconst (v := nI 1) S.1 S.2.1 dX1_takeSum_128 (by decide) ?_
                      refine lv_goto (tgt := 133) S.1 S.2.1 dX1_takeSum_129 (by decide) ?_
                      refine lv_istore (lv' := [(9, .int (nI 1)), (8, .int (nI 0)), (0, .ref (t)), (1, .ref (x)), (2, .ref (y)), (3, .int (iI sg)), (4, .int (nI i)), (5, .int (nI j)), (6, .int (nI (X.length + Y.length))), (7, .int (nI u))]) S.1 S.2.1 dX1_takeSum_133 hl (by decide) rfl (fun ls hl => ?_)
                      refine lv_iload S.1 S.2.1 dX1_takeSum_135 (lv_at hl 1 rfl) ?_
                      refine lv_if_eq (tgt := 150) S.1 S.2.1 dX1_takeSum_137 (by decide) (fun c137 => ?_) (fun c137 => ?_)
                      · skip
                        refine lv_aload_n S.1 S.2.1 dX1_takeSum_150 rfl (lv_at hl 4 rfl) ?_
                        refine gfX1_18 S hK hH hy0 dX1_takeSum_151 ?_
                        refine lv_iload S.1 S.2.1 dX1_takeSum_154 (lv_at hl 7 rfl) ?_
                        refine ald_l S hK hH hya (by omega) (by omega) dX1_takeSum_156 ?_
                        refine tpl (x' := lN (cd Y j)) (hy6 j hj) ?_
                        refine lv_lstore (lv' := [(10, .long (lN (cd Y j))), (9, .int (nI 1)), (8, .int (nI 0)), (0, .ref (t)), (1, .ref (x)), (2, .ref (y)), (3, .int (iI sg)), (4, .int (nI i)), (5, .int (nI j)), (6, .int (nI (X.length + Y.length))), (7, .int (nI u))]) S.1 S.2.1 dX1_takeSum_157 hl (by decide) rfl (fun ls hl => ?_)
                        refine lv_lconst (v := lI 0) S.1 S.2.1 dX1_takeSum_159 (by decide) ?_
                        refine lv_lstore (lv' := [(12, .long (lI 0)), (10, .long (lN (cd Y j))), (9, .int (nI 1)), (8, .int (nI 0)), (0, .ref (t)), (1, .ref (x)), (2, .ref (y)), (3, .int (iI sg)), (4, .int (nI i)), (5, .int (nI j)), (6, .int (nI (X.length + Y.length))), (7, .int (nI u))]) S.1 S.2.1 dX1_takeSum_160 hl (by decide) rfl (fun ls hl => ?_)
                        refine lv_iload S.1 S.2.1 dX1_takeSum_162 (lv_at hl 3 rfl) ?_
                        refine lv_if_eq (tgt := 183) S.1 S.2.1 dX1_takeSum_164 (by decide) (fun c164 => ?_) (fun c164 => ?_)
                        · skip
                          refine lv_iload S.1 S.2.1 dX1_takeSum_183 (lv_at hl 2 rfl) ?_
                          refine lv_if_eq (tgt := 207) S.1 S.2.1 dX1_takeSum_185 (by decide) (fun c185 => ?_) (fun c185 => ?_)
                          · skip
                            first | exact absurd c185 (by decide) | exact absurd rfl c185
                          · skip
                            refine lv_lload S.1 S.2.1 dX1_takeSum_188 (lv_at hl 0 rfl) ?_
                            refine lv_iload_n S.1 S.2.1 dX1_takeSum_190 rfl (lv_at hl 7 rfl) ?_
                            refine lv_i2l (v := lI (sg)) S.1 S.2.1 dX1_takeSum_191 (iI_l (by omega)) ?_
                            refine lv_aload_n S.1 S.2.1 dX1_takeSum_192 rfl (lv_at hl 6 rfl) ?_
                            refine gfX1_24 S hK hH hy0 dX1_takeSum_193 ?_
                            refine lv_iload S.1 S.2.1 dX1_takeSum_196 (lv_at hl 9 rfl) ?_
                            refine ald_i S hK hH hyb (by omega) (by omega) dX1_takeSum_198 ?_
                            refine tpi (x' := iI (cf Y j)) (hy7 j hj) ?_
                            refine lv_i2l (v := lI (cf Y j)) S.1 S.2.1 dX1_takeSum_199 (iI_l (by omega)) ?_
                            refine lv_lmul S.1 S.2.1 dX1_takeSum_200 ?_
                            refine tpl (x' := lI ((sg) * (cf Y j))) (lI_mul _ _) ?_
                            refine lv_ladd S.1 S.2.1 dX1_takeSum_201 ?_
                            refine tpl (x' := lI ((0) + ((sg) * (cf Y j)))) (lI_add _ _) ?_
                            refine lv_lstore (lv' := [(12, .long (lI ((0) + ((sg) * (cf Y j))))), (10, .long (lN (cd Y j))), (9, .int (nI 1)), (8, .int (nI 0)), (0, .ref (t)), (1, .ref (x)), (2, .ref (y)), (3, .int (iI sg)), (4, .int (nI i)), (5, .int (nI j)), (6, .int (nI (X.length + Y.length))), (7, .int (nI u))]) S.1 S.2.1 dX1_takeSum_202 hl (by decide) rfl (fun ls hl => ?_)
                            refine lv_iinc (v := nI (j + 1)) (lv' := [(5, .int (nI (j + 1))), (12, .long (lI ((0) + ((sg) * (cf Y j))))), (10, .long (lN (cd Y j))), (9, .int (nI 1)), (8, .int (nI 0)), (0, .ref (t)), (1, .ref (x)), (2, .ref (y)), (3, .int (iI sg)), (4, .int (nI i)), (6, .int (nI (X.length + Y.length))), (7, .int (nI u))]) S.1 S.2.1 dX1_takeSum_204 hl (k := 9) rfl (nI_inc _ 1) (by decide) rfl (fun ls hl => ?_)
                            refine lv_aload_n S.1 S.2.1 dX1_takeSum_207 rfl (lv_at hl 5 rfl) ?_
                            refine lv_lload S.1 S.2.1 dX1_takeSum_208 (lv_at hl 2 rfl) ?_
                            refine lv_lload S.1 S.2.1 dX1_takeSum_210 (lv_at hl 1 rfl) ?_
                            refine ck_i (run_V (As := [.long (lN (cd Y j)), .long (lI ((0) + ((sg) * (cf Y j))))]) (rest := []) S hK hH (kX1_append t 60 (cd Y j) acc ((0) + ((sg) * (cf Y j))) 0 tp hpc (by omega)) ceX1_append mW130 hpc.ob rfl rfl hl.1 rfl (Nat.le_of_ble_eq_true rfl) dX1_takeSum_212 ⟨rfl, rfl, by decide, by decide⟩ ⟨show 0 + 0 ≤ 0 by omega, show 0 + 0 ≤ 0 by omega⟩) hH (fun r212 w11 n11 H locs hp hH => ?_)
                            obtain ⟨hn1, hfr, hq⟩ := hp
                            rw [hn1] at hH
                            replace hx0 := (hfr (x) (by omega)).trans hx0
                            replace hxa := (hfr (x + 1) (by omega)).trans hxa
                            replace hxb := (hfr (x + 2) (by omega)).trans hxb
                            replace hy0 := (hfr (y) (by omega)).trans hy0
                            replace hya := (hfr (y + 1) (by omega)).trans hya
                            replace hyb := (hfr (y + 2) (by omega)).trans hyb
                            replace hF : ∀ b, b < t ∨ t + 3 ≤ b → w11 b = w b := fun b hb => (hfr b (by omega)).trans (hF b hb)
                            refine lv_if_ne (tgt := 220) S.1 S.2.1 dX1_takeSum_215 (by decide) (fun c215 => ?_) (fun c215 => ?_)
                            · skip
                              rcases hq with ⟨_, L', e1, hpc⟩ | ⟨e1, _⟩
                              rotate_left
                              · exact absurd e1 c215
                              refine lv_iinc (v := nI (u + 1)) (lv' := [(7, .int (nI (u + 1))), (5, .int (nI (j + 1))), (12, .long (lI ((0) + ((sg) * (cf Y j))))), (10, .long (lN (cd Y j))), (9, .int (nI 1)), (8, .int (nI 0)), (0, .ref (t)), (1, .ref (x)), (2, .ref (y)), (3, .int (iI sg)), (4, .int (nI i)), (6, .int (nI (X.length + Y.length)))]) S.1 S.2.1 dX1_takeSum_220 hl (k := 11) rfl (nI_inc _ 1) (by decide) rfl (fun ls hl => ?_)
                              refine lv_goto (tgt := 24) S.1 S.2.1 dX1_takeSum_223 (by decide) ?_
                              exact ih24 _ _ _ _ (by omega) ⟨u + 1, i, j + 1, L', w11, lv_sub hl [6, 7, 8, 9, 10, 1, 11, 0] rfl, hH, hx0, hxa, hxb, hy0, hya, hyb, hpc, hF, by omega, by omega, by omega, hts.trans (tsum_some c28 (by omega) (nxtE hi hj hc) e1), rfl⟩
                            · skip
                              rcases hq with ⟨e1, _⟩ | ⟨_, e1, e2⟩
                              · rw [e1] at c215; exact absurd c215 (by decide)
                              refine lv_iconst (v := nI 0) S.1 S.2.1 dX1_takeSum_218 (by decide) ?_
                              rw [← e2] at hpc
                              exact rt_z S hr hlk hH dX1_takeSum_219 (by decide) (⟨rfl, hF, Or.inr ⟨rfl, hts.trans (tsum_none c28 (by omega) (nxtE hi hj hc) e1), acc, hpc⟩⟩)
                        · skip
                          first | exact absurd c164 (by decide) | exact absurd rfl c164
                      · skip
                        first | exact absurd c137 (by decide) | exact absurd rfl c137
              · skip
                exfalso; rw [pk_lLT (by omega) (by omega)] at c81; omega

