theorem PolyC.ob {G : Gx} {w : Wm} {a cap : Nat} {L : PL} {tk : Int32} {tp : Nat → Int32} (h : PolyC G w a cap L tk tp) : w a = some (eO 1 [.ref (a + 1), .ref (a + 2), .int (nI L.length), .ref (a + 3), .int tk]) := by
  obtain ⟨f, g, h0, -⟩ := h
  exact h0
theorem mn60 {q : Nat} (h : q ≤ 60) : (if nI 60 < nI q then nI 60 else nI q) = nI q := by
  rw [if_neg (nI_nlt h (by omega))]
theorem mx0 {q : Nat} (h : q ≤ 60) : (if nI 0 < nI q then nI q else nI 0) = nI q := by
  by_cases h0 : 0 < q
  · rw [if_pos (nI_lt h0 (by omega))]
  · rw [show q = 0 by omega]; rfl
theorem ix_neg {x : Int32} {N : Nat} (h : x < 0) (hN : N < 2 ^ 31) : ¬ ∃ j, j < N ∧ x = nI j := by
  rintro ⟨j, hj, rfl⟩
  exact nI_pos (Nat.lt_trans hj hN) h
theorem ix_big {x : Int32} {N : Nat} (h : nI N ≤ x) (hN : N < 2 ^ 31) : ¬ ∃ j, j < N ∧ x = nI j := by
  rintro ⟨j, hj, rfl⟩
  exact nI_ge hj hN h
theorem ix_in {x : Int32} {N : Nat} (h : ¬ x < 0) (h2 : ¬ nI N ≤ x) (hN : N < 2 ^ 31) : ∃ j, j < N ∧ x = nI j := by
  rcases pk_ix x hN with q | q | q
  · exact absurd q h
  · exact absurd q h2
  · exact q
/-- the power of symbol t in a code -/
def dig (c t : Nat) : Nat := c / 10 ^ (15 - t) % 10
theorem app_take {L : PL} {k : Nat} (hk : k < L.length) (h : cf L k ≠ 0 ∧ -99999999 ≤ cf L k ∧ cf L k ≤ 99999999) : app L.length (L.take k) (cd L k) (cf L k) = some (L.take (k + 1)) := by
  rw [app, if_neg h.1, if_neg (by rw [List.length_take]; omega), take_cd hk]
theorem lI10 : lI 10 = lN 10 := by decide
theorem div10 {c i t : Nat} (hc : c < 4611686018427387904) (h : t + 1 ≤ i) : lN (c / 10 ^ (i - (t + 1))) / lI 10 = lN (c / 10 ^ (i + 1 - (t + 1))) := by
  rw [lI10, pk_lDiv (Nat.lt_of_le_of_lt (Nat.div_le_self _ _) (by omega)) (by decide) (by decide), Nat.div_div_eq_div_mul, ← Nat.pow_succ, show (i - (t + 1)).succ = i + 1 - (t + 1) by omega]
theorem rem10 {c i : Nat} (hc : c < 4611686018427387904) : lN (c / 10 ^ i) - lN (c / 10 ^ i) / lI 10 * lI 10 = lN (c / 10 ^ i % 10) := by
  rw [lI10, pk_lRem (Nat.lt_of_le_of_lt (Nat.div_le_self _ _) (by omega)) (by decide) (by decide)]
theorem pl_ext {L L2 : PL} (hl : L.length = L2.length) (h : ∀ i, i < L.length → cd L i = cd L2 i ∧ cf L i = cf L2 i) : L = L2 := by
  apply List.ext_getElem hl
  intro i h1 h2
  have e1 : L.getD i (0, 0) = L[i] := by simp [List.getD_eq_getElem?_getD, h1]
  have e2 : L2.getD i (0, 0) = L2[i] := by simp [List.getD_eq_getElem?_getD, h2]
  have := h i h1
  unfold cd cf at this
  rw [e1, e2] at this
  exact Prod.ext this.1 this.2

set_option maxHeartbeats 4000000 in
set_option maxRecDepth 100000 in
theorem kX1_init {l : Launch} {G : Gx} {B : Nat} {w : Wm} {n : Nat} (a q : Nat) (h0 : w a = some (eO 1 [.null, .null, .int 0, .null, .int 0])) (hq : q ≤ 60) (hn : n = a + 1) : Met l yX1_init (wsM yX1_init cX1_init 3 none) ({ frames := 1, cells := 3, slots := 136, locals := 21 } : Room) (Pcx G B w n [.ref (a), .int (nI q)]) (Qv G B (fun w' n' => n' = a + 4 ∧ (∀ b, (b < a ∨ a + 4 ≤ b) → w' b = w b) ∧ PolyC G w' a q [] 0 (fun _ => 0))) 3 136 (FA B) := by
  refine en (by decide) (Nat.le_of_ble_eq_true rfl) ?_
  intro p ev s mm ag bl mt co S hr hlk hnm hK H hH ls hl
  have hl : lv_has ls 3 [(0, .ref (a)), (1, .int (nI q))] := hl
  subst hn
  have hF : ∀ b, b < a ∨ a + 4 ≤ b → w b = w b := fun _ _ => rfl
  refine lv_aload_n S.1 S.2.1 dX1_init_0 rfl (lv_at hl 0 rfl) ?_
  refine W.objInit S.1 S.2.1 S.2.2.2.1 (S.2.2.2.2 _ mW19) (S.2.2.2.2 _ mW12) (S.2.2.2.2 _ mW13) rfl (hl.1.trans S.2.2.1.symm) rfl dX1_init_1 (by decide) (Nat.le_of_ble_eq_true rfl) ?_
  refine W.eq (g2 := F0 mm 4 ls []) rfl ?_
  refine lv_iconst (v := nI 0) S.1 S.2.1 dX1_init_4 (by decide) ?_
  refine lv_iload_n S.1 S.2.1 dX1_init_5 rfl (lv_at hl 1 rfl) ?_
  refine lv_bipush (v := nI 60) S.1 S.2.1 dX1_init_6 (by decide) ?_
  refine va_mmin S.1 S.2.1 (S.2.2.1.trans hl.1.symm) S.2.2.2.1 (S.2.2.2.2 _ mW20) (S.2.2.2.2 _ mW21) (S.2.2.2.2 _ mW3) (S.2.2.2.2 _ mW22) (by decide) (by simp [Value.category]) (show 0 ≤ 3 by omega) (show 0 ≤ 136 by omega) dX1_init_8 ?_
  refine tpi (x' := nI q) (mn60 hq) ?_
  refine va_mmax S.1 S.2.1 (S.2.2.1.trans hl.1.symm) S.2.2.2.1 (S.2.2.2.2 _ mW23) (S.2.2.2.2 _ mW24) (S.2.2.2.2 _ mW3) (S.2.2.2.2 _ mW25) (by decide) (by simp [Value.category]) (show 0 ≤ 3 by omega) (show 0 ≤ 136 by omega) dX1_init_11 ?_
  refine tpi (x' := nI q) (mx0 hq) ?_
  refine lv_istore_n (lv' := [(2, .int (nI q)), (0, .ref (a)), (1, .int (nI q))]) S.1 S.2.1 dX1_init_14 rfl hl (by decide) rfl (fun ls hl => ?_)
  refine lv_aload_n S.1 S.2.1 dX1_init_15 rfl (lv_at hl 1 rfl) ?_
  refine lv_iload_n S.1 S.2.1 dX1_init_16 rfl (lv_at hl 0 rfl) ?_
  refine nwa_l S hK hH mW46 (by omega) (show 0 + 1 ≤ 3 by omega) (show 0 + (q) ≤ 136 by omega) dX1_init_17 (fun w1 H h1 fr hH => ?_)
  replace h0 := (fr (a) (by omega)).trans h0
  replace hF : ∀ b, b < a ∨ a + 4 ≤ b → w1 b = w b := fun b hb => (fr b (by omega)).trans (hF b hb)
  refine pfX1_18 S hK hH h0 hnm dX1_init_19 (fun w3 H locs h0 fr hH => ?_)
  replace h1 := (fr (a + 1) (by omega)).trans h1
  replace hF : ∀ b, b < a ∨ a + 4 ≤ b → w3 b = w b := fun b hb => (fr b (by omega)).trans (hF b hb)
  refine lv_aload_n S.1 S.2.1 dX1_init_22 rfl (lv_at hl 1 rfl) ?_
  refine lv_iload_n S.1 S.2.1 dX1_init_23 rfl (lv_at hl 0 rfl) ?_
  refine nwa_i S hK hH mW47 (by omega) (show (0 + 1) + 1 ≤ 3 by omega) (show (0 + (q)) + (q) ≤ 136 by omega) dX1_init_24 (fun w4 H h2 fr hH => ?_)
  replace h0 := (fr (a) (by omega)).trans h0
  replace h1 := (fr (a + 1) (by omega)).trans h1
  replace hF : ∀ b, b < a ∨ a + 4 ≤ b → w4 b = w b := fun b hb => (fr b (by omega)).trans (hF b hb)
  refine pfX1_24 S hK hH h0 hnm dX1_init_26 (fun w6 H locs h0 fr hH => ?_)
  replace h1 := (fr (a + 1) (by omega)).trans h1
  replace h2 := (fr (a + 2) (by omega)).trans h2
  replace hF : ∀ b, b < a ∨ a + 4 ≤ b → w6 b = w b := fun b hb => (fr b (by omega)).trans (hF b hb)
  refine lv_aload_n S.1 S.2.1 dX1_init_29 rfl (lv_at hl 1 rfl) ?_
  refine lv_iconst (v := nI 0) S.1 S.2.1 dX1_init_30 (by decide) ?_
  refine pfX1_28 S hK hH h0 dX1_init_31 (fun w7 H locs h0 fr hH => ?_)
  replace h1 := (fr (a + 1) (by omega)).trans h1
  replace h2 := (fr (a + 2) (by omega)).trans h2
  replace hF : ∀ b, b < a ∨ a + 4 ≤ b → w7 b = w b := fun b hb => (fr b (by omega)).trans (hF b hb)
  refine lv_aload_n S.1 S.2.1 dX1_init_34 rfl (lv_at hl 1 rfl) ?_
  refine lv_bipush (v := nI 16) S.1 S.2.1 dX1_init_35 (by decide) ?_
  refine nwa_i S hK hH mW47 (by omega) (show ((0 + 1) + 1) + 1 ≤ 3 by omega) (show ((0 + (q)) + (q)) + (16) ≤ 136 by omega) dX1_init_37 (fun w8 H h3 fr hH => ?_)
  replace h0 := (fr (a) (by omega)).trans h0
  replace h1 := (fr (a + 1) (by omega)).trans h1
  replace h2 := (fr (a + 2) (by omega)).trans h2
  replace hF : ∀ b, b < a ∨ a + 4 ≤ b → w8 b = w b := fun b hb => (fr b (by omega)).trans (hF b hb)
  refine pfX1_32 S hK hH h0 hnm dX1_init_39 (fun w10 H locs h0 fr hH => ?_)
  replace h1 := (fr (a + 1) (by omega)).trans h1
  replace h2 := (fr (a + 2) (by omega)).trans h2
  replace h3 := (fr (a + 3) (by omega)).trans h3
  replace hF : ∀ b, b < a ∨ a + 4 ≤ b → w10 b = w b := fun b hb => (fr b (by omega)).trans (hF b hb)
  refine lv_aload_n S.1 S.2.1 dX1_init_42 rfl (lv_at hl 1 rfl) ?_
  refine lv_iconst (v := nI 0) S.1 S.2.1 dX1_init_43 (by decide) ?_
  refine pfX1_35 S hK hH h0 (by decide) dX1_init_44 (fun w11 H locs h0 fr hH => ?_)
  replace h1 := (fr (a + 1) (by omega)).trans h1
  replace h2 := (fr (a + 2) (by omega)).trans h2
  replace h3 := (fr (a + 3) (by omega)).trans h3
  replace hF : ∀ b, b < a ∨ a + 4 ≤ b → w11 b = w b := fun b hb => (fr b (by omega)).trans (hF b hb)
  refine W.widen (k := 3) (n := 136) (by omega) (by omega) ?_
  exact rt_v S hr hlk hH dX1_init_47 (⟨rfl, hF, _, _, h0, h1, h2, h3, Nat.zero_le _, hq, fun j h => absurd h (Nat.not_lt_zero j), fun j h => absurd h (Nat.not_lt_zero j), Or.inl rfl⟩)

set_option maxHeartbeats 4000000 in
set_option maxRecDepth 100000 in
theorem kX1_copied {l : Launch} {G : Gx} {B : Nat} {w : Wm} {n : Nat} (a cap : Nat) (L : PL) (tk : Int32) (tp : Nat → Int32) (hp : PolyC G w a cap L tk tp) (hok : (∀ j, j < L.length → cd L j < 4611686018427387904 ∧ cf L j ≠ 0 ∧ -99999999 ≤ cf L j ∧ cf L j ≤ 99999999)) (han : a + 4 ≤ n) : Met l yX1_copied (wsM yX1_copied cX1_copied 3 (some (.object "PolyDesk$Poly"))) ({ frames := 2, cells := 4, slots := 141, locals := 43 } : Room) (Pcx G B w n [.ref (a)]) (Qr G B (fun r w' n' => r = n ∧ n' = n + 4 ∧ (∀ b, (b < n ∨ n + 4 ≤ b) → w' b = w b) ∧ PolyC G w' n L.length L 0 (fun _ => 0))) 4 141 (FA B) := by
  refine en (by decide) (Nat.le_of_ble_eq_true rfl) ?_
  intro p ev s mm ag bl mt co S hr hlk hnm hK H hH ls hl
  have hl : lv_has ls 3 [(0, .ref (a))] := hl
  obtain ⟨f, g, h0, h1, h2, h3, h4, h5, h6, h7, h8⟩ := hp
  have hF : ∀ b, b < n ∨ n + 4 ≤ b → w b = w b := fun _ _ => rfl
  refine nwo (ci := 1) (fs := [.null, .null, .int (0), .null, .int (0)]) S hK hH rfl fwX1 tyX1 tyX1_ok mW128 mW15 mW2 (fun j hj => by rcases (show j = 0 ∨ j = 1 ∨ j = 2 ∨ j = 3 ∨ j = 4 by omega) with rfl | rfl | rfl | rfl | rfl <;> rfl) (show 0 + 1 ≤ 4 by omega) (show 0 + 5 ≤ 141 by omega) dX1_copied_0 (fun w1 H hc0 fr hH => ?_)
  replace h0 := (fr (a) (by omega)).trans h0
  replace h1 := (fr (a + 1) (by omega)).trans h1
  replace h2 := (fr (a + 2) (by omega)).trans h2
  replace h3 := (fr (a + 3) (by omega)).trans h3
  replace hF : ∀ b, b < n ∨ n + 4 ≤ b → w1 b = w b := fun b hb => (fr b (by omega)).trans (hF b hb)
  refine lv_dup S.1 S.2.1 dX1_copied_3 rfl ?_
  refine lv_aload_n S.1 S.2.1 dX1_copied_4 rfl (lv_at hl 0 rfl) ?_
  refine gfX1_28 S hK hH h0 dX1_copied_5 ?_
  refine ck_v (run_I (As := [.int (nI L.length)]) (rest := [.ref (n)]) S hK hH (kX1_init n L.length hc0 (by omega) rfl) ceX1_init mW129 rfl hl.1 rfl (Nat.le_of_ble_eq_true rfl) dX1_copied_8 ⟨rfl, rfl, by decide, by decide⟩ ⟨show (0 + 1) + 3 ≤ 4 by omega, show (0 + 5) + 136 ≤ 141 by omega⟩) hH (fun w3 n3 H locs hp hH => ?_)
  obtain ⟨hn1, hfr, hpc⟩ := hp
  rw [hn1] at hH
  replace h0 := (hfr (a) (by omega)).trans h0
  replace h1 := (hfr (a + 1) (by omega)).trans h1
  replace h2 := (hfr (a + 2) (by omega)).trans h2
  replace h3 := (hfr (a + 3) (by omega)).trans h3
  replace hF : ∀ b, b < n ∨ n + 4 ≤ b → w3 b = w b := fun b hb => (hfr b (by omega)).trans (hF b hb)
  refine lv_astore_n (lv' := [(1, .ref (n)), (0, .ref (a))]) S.1 S.2.1 dX1_copied_11 rfl hl (by decide) rfl (fun ls hl => ?_)
  refine lv_iconst (v := nI 0) S.1 S.2.1 dX1_copied_12 (by decide) ?_
  refine lv_istore_n (lv' := [(2, .int (nI 0)), (1, .ref (n)), (0, .ref (a))]) S.1 S.2.1 dX1_copied_13 rfl hl (by decide) rfl (fun ls hl => ?_)
  refine wlp (P := fun k_ ls H' locs' => ∃ (k : Nat) (v : Wm), lv_has ls 3 [(0, .ref (a)), (1, .ref (n)), (2, .int (nI k))] ∧ HS G B v (n + 4) s H' locs' ∧ v (a) = some (eO 1 [.ref (a + 1), .ref (a + 2), .int (nI L.length), .ref (a + 3), .int (tk)]) ∧ v (a + 1) = some (eJ G (cap) (f)) ∧ v (a + 2) = some (eI G (cap) (g)) ∧ v (a + 3) = some (eI G (16) (tp)) ∧ (PolyC G v n L.length (L.take k) 0 (fun _ => 0)) ∧ (∀ b, b < n ∨ n + 4 ≤ b → v b = w b) ∧ (k ≤ L.length) ∧ k_ = L.length - k) ?_ (k0 := L.length - (0)) ⟨0, w3, lv_sub hl [2, 1, 0] rfl, hH, h0, h1, h2, h3, hpc, hF, Nat.zero_le _, rfl⟩
  intro k14 ls H locs hP ih14
  obtain ⟨k, v, hl, hH, h0, h1, h2, h3, hpc, hF, hk, hk14⟩ := hP
  refine lv_iload_n S.1 S.2.1 dX1_copied_14 rfl (lv_at hl 2 rfl) ?_
  refine lv_aload_n S.1 S.2.1 dX1_copied_15 rfl (lv_at hl 0 rfl) ?_
  refine gfX1_28 S hK hH h0 dX1_copied_16 ?_
  refine bn_ge (tgt := 46) S dX1_copied_19 (by decide) (by omega) (fun c19 => ?_) (fun c19 => ?_)
  · skip
    refine lv_aload_n S.1 S.2.1 dX1_copied_46 rfl (lv_at hl 1 rfl) ?_
    refine W.widen (k := 4) (n := 141) (by omega) (by omega) ?_
    exact rt_r S hr hlk hH dX1_copied_47 (⟨rfl, rfl, hF, by rw [show L.take k = L from List.take_of_length_le c19] at hpc; exact hpc⟩)
  · skip
    refine lv_aload_n S.1 S.2.1 dX1_copied_22 rfl (lv_at hl 1 rfl) ?_
    refine lv_aload_n S.1 S.2.1 dX1_copied_23 rfl (lv_at hl 0 rfl) ?_
    refine gfX1_18 S hK hH h0 dX1_copied_24 ?_
    refine lv_iload_n S.1 S.2.1 dX1_copied_27 rfl (lv_at hl 2 rfl) ?_
    refine ald_l S hK hH h1 (by omega) (by omega) dX1_copied_28 ?_
    refine tpl (x' := lN (cd L k)) (h6 k c19) ?_
    refine lv_aload_n S.1 S.2.1 dX1_copied_29 rfl (lv_at hl 0 rfl) ?_
    refine gfX1_24 S hK hH h0 dX1_copied_30 ?_
    refine lv_iload_n S.1 S.2.1 dX1_copied_33 rfl (lv_at hl 2 rfl) ?_
    refine ald_i S hK hH h2 (by omega) (by omega) dX1_copied_34 ?_
    refine tpi (x' := iI (cf L k)) (h7 k c19) ?_
    have hb := hok k c19
    refine lv_i2l (v := lI (cf L k)) S.1 S.2.1 dX1_copied_35 (iI_l (by omega)) ?_
    refine ck_i (run_V (As := [.long (lN (cd L k)), .long (lI (cf L k))]) (rest := []) S hK hH (kX1_append n L.length (cd L k) (L.take k) (cf L k) 0 (fun _ => 0) hpc (by omega)) ceX1_append mW130 hpc.ob rfl rfl hl.1 rfl (Nat.le_of_ble_eq_true rfl) dX1_copied_36 ⟨rfl, rfl, by decide, by decide⟩ ⟨show ((0 + 1) + 3) + 0 ≤ 4 by omega, show ((0 + 5) + 136) + 0 ≤ 141 by omega⟩) hH (fun r36 w4 n4 H locs hp hH => ?_)
    obtain ⟨hn1, hfr, hq⟩ := hp
    rw [hn1] at hH
    replace h0 := (hfr (a) (by omega)).trans h0
    replace h1 := (hfr (a + 1) (by omega)).trans h1
    replace h2 := (hfr (a + 2) (by omega)).trans h2
    replace h3 := (hfr (a + 3) (by omega)).trans h3
    replace hF : ∀ b, b < n ∨ n + 4 ≤ b → w4 b = w b := fun b hb => (hfr b (by omega)).trans (hF b hb)
    rw [app_take c19 hb.2] at hq
    have hpc : PolyC G w4 n L.length (L.take (k + 1)) 0 (fun _ => 0) := by
      rcases hq with ⟨_, L', e1, e2⟩ | ⟨_, e1, _⟩
      · cases e1; exact e2
      · cases e1
    refine lv_pop S.1 S.2.1 dX1_copied_39 rfl ?_
    refine lv_iinc (v := nI (k + 1)) (lv' := [(2, .int (nI (k + 1))), (0, .ref (a)), (1, .ref (n))]) S.1 S.2.1 dX1_copied_40 hl (k := 2) rfl (nI_inc _ 1) (by decide) rfl (fun ls hl => ?_)
    refine lv_goto (tgt := 14) S.1 S.2.1 dX1_copied_43 (by decide) ?_
    exact ih14 _ _ _ _ (by omega) ⟨k + 1, w4, lv_sub hl [1, 2, 0] rfl, hH, h0, h1, h2, h3, hpc, hF, c19, rfl⟩

set_option maxHeartbeats 4000000 in
set_option maxRecDepth 100000 in
theorem kX2_isSymbol {l : Launch} {G : Gx} {B : Nat} {w : Wm} {n : Nat} (x : Int32) : Met l yX2_isSymbol (wsM yX2_isSymbol cX2_isSymbol 1 (some .boolean)) ({ frames := 0, cells := 0, slots := 0, locals := 0 } : Room) (Pcx G B w n [.int (x)]) (Qi G B (fun r w' n' => w' = w ∧ n' = n ∧ ((r = 1 ∧ ∃ j, j < 16 ∧ x = nI j) ∨ (r = 0 ∧ ¬ ∃ j, j < 16 ∧ x = nI j)))) 0 0 (FA B) := by
  refine en (by decide) (Nat.le_of_ble_eq_true rfl) ?_
  intro p ev s mm ag bl mt co S hr hlk hnm hK H hH ls hl
  have hl : lv_has ls 1 [(0, .int (x))] := hl
  refine lv_iload_n S.1 S.2.1 dX2_isSymbol_0 rfl (lv_at hl 0 rfl) ?_
  refine lv_if_lt (tgt := 14) S.1 S.2.1 dX2_isSymbol_1 (by decide) (fun c1 => ?_) (fun c1 => ?_)
  · skip
    refine lv_iconst (v := nI 0) S.1 S.2.1 dX2_isSymbol_14 (by decide) ?_
    exact rt_z S hr hlk hH dX2_isSymbol_15 (by decide) (⟨rfl, rfl, Or.inr ⟨rfl, ix_neg c1 (by omega)⟩⟩)
  · skip
    refine lv_iload_n S.1 S.2.1 dX2_isSymbol_4 rfl (lv_at hl 0 rfl) ?_
    refine lv_bipush (v := nI 16) S.1 S.2.1 dX2_isSymbol_5 (by decide) ?_
    refine lv_icmp_ge (tgt := 14) S.1 S.2.1 dX2_isSymbol_7 (by decide) (fun c7 => ?_) (fun c7 => ?_)
    · skip
      refine lv_iconst (v := nI 0) S.1 S.2.1 dX2_isSymbol_14 (by decide) ?_
      exact rt_z S hr hlk hH dX2_isSymbol_15 (by decide) (⟨rfl, rfl, Or.inr ⟨rfl, ix_big c7 (by omega)⟩⟩)
    · skip
      refine lv_iconst (v := nI 1) S.1 S.2.1 dX2_isSymbol_10 (by decide) ?_
      refine lv_goto (tgt := 15) S.1 S.2.1 dX2_isSymbol_11 (by decide) ?_
      exact rt_z S hr hlk hH dX2_isSymbol_15 (by decide) (⟨rfl, rfl, Or.inl ⟨rfl, ix_in c1 c7 (by omega)⟩⟩)

set_option maxHeartbeats 4000000 in
set_option maxRecDepth 100000 in
theorem kX2_isRegister {l : Launch} {G : Gx} {B : Nat} {w : Wm} {n : Nat} (x : Int32) : Met l yX2_isRegister (wsM yX2_isRegister cX2_isRegister 1 (some .boolean)) ({ frames := 0, cells := 0, slots := 0, locals := 0 } : Room) (Pcx G B w n [.int (x)]) (Qi G B (fun r w' n' => w' = w ∧ n' = n ∧ ((r = 1 ∧ ∃ j, j < 16 ∧ x = nI j) ∨ (r = 0 ∧ ¬ ∃ j, j < 16 ∧ x = nI j)))) 0 0 (FA B) := by
  refine en (by decide) (Nat.le_of_ble_eq_true rfl) ?_
  intro p ev s mm ag bl mt co S hr hlk hnm hK H hH ls hl
  have hl : lv_has ls 1 [(0, .int (x))] := hl
  refine lv_iload_n S.1 S.2.1 dX2_isRegister_0 rfl (lv_at hl 0 rfl) ?_
  refine lv_if_lt (tgt := 14) S.1 S.2.1 dX2_isRegister_1 (by decide) (fun c1 => ?_) (fun c1 => ?_)
  · skip
    refine lv_iconst (v := nI 0) S.1 S.2.1 dX2_isRegister_14 (by decide) ?_
    exact rt_z S hr hlk hH dX2_isRegister_15 (by decide) (⟨rfl, rfl, Or.inr ⟨rfl, ix_neg c1 (by omega)⟩⟩)
  · skip
    refine lv_iload_n S.1 S.2.1 dX2_isRegister_4 rfl (lv_at hl 0 rfl) ?_
    refine lv_bipush (v := nI 16) S.1 S.2.1 dX2_isRegister_5 (by decide) ?_
    refine lv_icmp_ge (tgt := 14) S.1 S.2.1 dX2_isRegister_7 (by decide) (fun c7 => ?_) (fun c7 => ?_)
    · skip
      refine lv_iconst (v := nI 0) S.1 S.2.1 dX2_isRegister_14 (by decide) ?_
      exact rt_z S hr hlk hH dX2_isRegister_15 (by decide) (⟨rfl, rfl, Or.inr ⟨rfl, ix_big c7 (by omega)⟩⟩)
    · skip
      refine lv_iconst (v := nI 1) S.1 S.2.1 dX2_isRegister_10 (by decide) ?_
      refine lv_goto (tgt := 15) S.1 S.2.1 dX2_isRegister_11 (by decide) ?_
      exact rt_z S hr hlk hH dX2_isRegister_15 (by decide) (⟨rfl, rfl, Or.inl ⟨rfl, ix_in c1 c7 (by omega)⟩⟩)

set_option maxHeartbeats 4000000 in
set_option maxRecDepth 100000 in
theorem kX1_hasTerm {l : Launch} {G : Gx} {B : Nat} {w : Wm} {n : Nat} (a cap : Nat) (L : PL) (tk : Int32) (tp : Nat → Int32) (x : Int32) (hp : PolyC G w a cap L tk tp) : Met l yX1_hasTerm (wsM yX1_hasTerm cX1_hasTerm 2 (some .boolean)) ({ frames := 0, cells := 0, slots := 0, locals := 0 } : Room) (Pcx G B w n [.ref (a), .int (x)]) (Qi G B (fun r w' n' => w' = w ∧ n' = n ∧ ((r = 1 ∧ ∃ j, j < L.length ∧ x = nI j) ∨ (r = 0 ∧ ¬ ∃ j, j < L.length ∧ x = nI j)))) 0 0 (FA B) := by
  refine en (by decide) (Nat.le_of_ble_eq_true rfl) ?_
  intro p ev s mm ag bl mt co S hr hlk hnm hK H hH ls hl
  have hl : lv_has ls 2 [(0, .ref (a)), (1, .int (x))] := hl
  obtain ⟨f, g, h0, h1, h2, h3, h4, h5, h6, h7, h8⟩ := hp
  refine lv_iload_n S.1 S.2.1 dX1_hasTerm_0 rfl (lv_at hl 1 rfl) ?_
  refine lv_if_lt (tgt := 16) S.1 S.2.1 dX1_hasTerm_1 (by decide) (fun c1 => ?_) (fun c1 => ?_)
  · skip
    refine lv_iconst (v := nI 0) S.1 S.2.1 dX1_hasTerm_16 (by decide) ?_
    exact rt_z S hr hlk hH dX1_hasTerm_17 (by decide) (⟨rfl, rfl, Or.inr ⟨rfl, ix_neg c1 (by omega)⟩⟩)
  · skip
    refine lv_iload_n S.1 S.2.1 dX1_hasTerm_4 rfl (lv_at hl 1 rfl) ?_
    refine lv_aload_n S.1 S.2.1 dX1_hasTerm_5 rfl (lv_at hl 0 rfl) ?_
    refine gfX1_28 S hK hH h0 dX1_hasTerm_6 ?_
    refine lv_icmp_ge (tgt := 16) S.1 S.2.1 dX1_hasTerm_9 (by decide) (fun c9 => ?_) (fun c9 => ?_)
    · skip
      refine lv_iconst (v := nI 0) S.1 S.2.1 dX1_hasTerm_16 (by decide) ?_
      exact rt_z S hr hlk hH dX1_hasTerm_17 (by decide) (⟨rfl, rfl, Or.inr ⟨rfl, ix_big c9 (by omega)⟩⟩)
    · skip
      refine lv_iconst (v := nI 1) S.1 S.2.1 dX1_hasTerm_12 (by decide) ?_
      refine lv_goto (tgt := 17) S.1 S.2.1 dX1_hasTerm_13 (by decide) ?_
      exact rt_z S hr hlk hH dX1_hasTerm_17 (by decide) (⟨rfl, rfl, Or.inl ⟨rfl, ix_in c1 c9 (by omega)⟩⟩)

set_option maxHeartbeats 4000000 in
set_option maxRecDepth 100000 in
theorem kX1_coefficientAt {l : Launch} {G : Gx} {B : Nat} {w : Wm} {n : Nat} (a cap : Nat) (L : PL) (tk : Int32) (tp : Nat → Int32) (x : Int32) (hp : PolyC G w a cap L tk tp) : Met l yX1_coefficientAt (wsM yX1_coefficientAt cX1_coefficientAt 2 (some .int)) ({ frames := 1, cells := 0, slots := 0, locals := 21 } : Room) (Pcx G B w n [.ref (a), .int (x)]) (Qi G B (fun r w' n' => w' = w ∧ n' = n ∧ ((∃ j, j < L.length ∧ x = nI j ∧ r = iI (cf L j)) ∨ ((¬ ∃ j, j < L.length ∧ x = nI j) ∧ r = 0)))) 0 0 (FA B) := by
  refine en (by decide) (Nat.le_of_ble_eq_true rfl) ?_
  intro p ev s mm ag bl mt co S hr hlk hnm hK H hH ls hl
  have hl : lv_has ls 2 [(0, .ref (a)), (1, .int (x))] := hl
  have hp0 := hp
  obtain ⟨f, g, h0, h1, h2, h3, h4, h5, h6, h7, h8⟩ := hp
  refine lv_aload_n S.1 S.2.1 dX1_coefficientAt_0 rfl (lv_at hl 0 rfl) ?_
  refine lv_iload_n S.1 S.2.1 dX1_coefficientAt_1 rfl (lv_at hl 1 rfl) ?_
  refine ck_ip (run_V (As := [.int (x)]) (rest := []) S hK hH (kX1_hasTerm a cap L tk tp x hp0) ceX1_hasTerm mW217 h0 rfl rfl hl.1 rfl (Nat.le_of_ble_eq_true rfl) dX1_coefficientAt_2 ⟨rfl, rfl, by decide, by decide⟩ ⟨show 0 + 0 ≤ 0 by omega, show 0 + 0 ≤ 0 by omega⟩) hH (fun r2 H locs hp hH => ?_)
  have hq := hp
  refine lv_if_eq (tgt := 17) S.1 S.2.1 dX1_coefficientAt_5 (by decide) (fun c5 => ?_) (fun c5 => ?_)
  · skip
    rcases hq with ⟨rfl, _⟩ | ⟨_, hq⟩
    · exact absurd c5 (by decide)
    refine lv_iconst (v := nI 0) S.1 S.2.1 dX1_coefficientAt_17 (by decide) ?_
    exact rt_i S hr hlk hH dX1_coefficientAt_18 (⟨rfl, rfl, Or.inr ⟨hq, rfl⟩⟩)
  · skip
    rcases hq with ⟨_, j, hj, rfl⟩ | ⟨rfl, _⟩
    rotate_left
    · exact absurd rfl c5
    refine lv_aload_n S.1 S.2.1 dX1_coefficientAt_8 rfl (lv_at hl 0 rfl) ?_
    refine gfX1_24 S hK hH h0 dX1_coefficientAt_9 ?_
    refine lv_iload_n S.1 S.2.1 dX1_coefficientAt_12 rfl (lv_at hl 1 rfl) ?_
    refine ald_i S hK hH h2 (by omega) (by omega) dX1_coefficientAt_13 ?_
    refine tpi (x' := iI (cf L j)) (h7 j hj) ?_
    refine lv_goto (tgt := 18) S.1 S.2.1 dX1_coefficientAt_14 (by decide) ?_
    exact rt_i S hr hlk hH dX1_coefficientAt_18 (⟨rfl, rfl, Or.inl ⟨j, hj, rfl, rfl⟩⟩)

set_option maxHeartbeats 4000000 in
set_option maxRecDepth 100000 in
theorem kX1_powerAt {l : Launch} {G : Gx} {B : Nat} {w : Wm} {n : Nat} (a cap : Nat) (L : PL) (tk : Int32) (tp : Nat → Int32) (x y : Int32) (hp : PolyC G w a cap L tk tp) (hok : ∀ j, j < L.length → cd L j < 4611686018427387904) : Met l yX1_powerAt (wsM yX1_powerAt cX1_powerAt 6 (some .int)) ({ frames := 1, cells := 0, slots := 0, locals := 21 } : Room) (Pcx G B w n [.ref (a), .int (x), .int (y)]) (Qi G B (fun r w' n' => w' = w ∧ n' = n ∧ ((∃ j t, j < L.length ∧ t < 16 ∧ x = nI j ∧ y = nI t ∧ r = nI (dig (cd L j) t)) ∨ ((¬ ∃ j t, j < L.length ∧ t < 16 ∧ x = nI j ∧ y = nI t) ∧ r = 0)))) 0 0 (FA B) := by
  refine en (by decide) (Nat.le_of_ble_eq_true rfl) ?_
  intro p ev s mm ag bl mt co S hr hlk hnm hK H hH ls hl
  have hl : lv_has ls 6 [(0, .ref (a)), (1, .int (x)), (2, .int (y))] := hl
  have hp0 := hp
  obtain ⟨f, g, h0, h1, h2, h3, h4, h5, h6, h7, h8⟩ := hp
  refine lv_aload_n S.1 S.2.1 dX1_powerAt_0 rfl (lv_at hl 0 rfl) ?_
  refine lv_iload_n S.1 S.2.1 dX1_powerAt_1 rfl (lv_at hl 1 rfl) ?_
  refine ck_ip (run_V (As := [.int (x)]) (rest := []) S hK hH (kX1_hasTerm a cap L tk tp x hp0) ceX1_hasTerm mW217 h0 rfl rfl hl.1 rfl (Nat.le_of_ble_eq_true rfl) dX1_powerAt_2 ⟨rfl, rfl, by decide, by decide⟩ ⟨show 0 + 0 ≤ 0 by omega, show 0 + 0 ≤ 0 by omega⟩) hH (fun r2 H locs hp hH => ?_)
  have hq := hp
  refine lv_if_eq (tgt := 15) S.1 S.2.1 dX1_powerAt_5 (by decide) (fun c5 => ?_) (fun c5 => ?_)
  · skip
    rcases hq with ⟨rfl, _⟩ | ⟨_, hq⟩
    · exact absurd c5 (by decide)
    refine lv_iconst (v := nI 0) S.1 S.2.1 dX1_powerAt_15 (by decide) ?_
    exact rt_i S hr hlk hH dX1_powerAt_16 (⟨rfl, rfl, Or.inr ⟨fun ⟨j, t, h, _, h2, _⟩ => hq ⟨j, h, h2⟩, rfl⟩⟩)
  · skip
    rcases hq with ⟨_, j, hj, rfl⟩ | ⟨rfl, _⟩
    rotate_left
    · exact absurd rfl c5
    refine lv_iload_n S.1 S.2.1 dX1_powerAt_8 rfl (lv_at hl 2 rfl) ?_
    refine ck_ip (run_SN (As := [.int (y)]) (rest := []) S hK hH (kX2_isSymbol y) ceX2_isSymbol mN225 rfl hl.1 rfl (Nat.le_of_ble_eq_true rfl) dX1_powerAt_9 ⟨rfl, rfl, by decide, by decide⟩ ⟨show 0 + 0 ≤ 0 by omega, show 0 + 0 ≤ 0 by omega⟩) hH (fun r9 H locs hp hH => ?_)
    have hq2 := hp
    refine lv_if_ne (tgt := 17) S.1 S.2.1 dX1_powerAt_12 (by decide) (fun c12 => ?_) (fun c12 => ?_)
    · skip
      rcases hq2 with ⟨_, t, ht, rfl⟩ | ⟨rfl, _⟩
      rotate_left
      · exact absurd rfl c12
      refine lv_aload_n S.1 S.2.1 dX1_powerAt_17 rfl (lv_at hl 0 rfl) ?_
      refine gfX1_18 S hK hH h0 dX1_powerAt_18 ?_
      refine lv_iload_n S.1 S.2.1 dX1_powerAt_21 rfl (lv_at hl 1 rfl) ?_
      refine ald_l S hK hH h1 (by omega) (by omega) dX1_powerAt_22 ?_
      refine tpl (x' := lN (cd L j)) (h6 j hj) ?_
      have hb := hok j hj
      refine tpl (x' := lN (cd L j / 10 ^ (t + 1 - (t + 1)))) (by simp) ?_
      refine lv_lstore_n (lv' := [(3, .long (lN (cd L j / 10 ^ (t + 1 - (t + 1))))), (0, .ref (a)), (1, .int (nI j)), (2, .int (nI t))]) S.1 S.2.1 dX1_powerAt_23 rfl hl (by decide) rfl (fun ls hl => ?_)
      refine lv_iload_n S.1 S.2.1 dX1_powerAt_24 rfl (lv_at hl 3 rfl) ?_
      refine lv_iconst (v := nI 1) S.1 S.2.1 dX1_powerAt_25 (by decide) ?_
      refine lv_iadd S.1 S.2.1 dX1_powerAt_26 ?_
      refine tpi (x' := nI (t + 1)) (nI_add _ _) ?_
      refine lv_istore (lv' := [(5, .int (nI (t + 1))), (3, .long (lN (cd L j / 10 ^ (t + 1 - (t + 1))))), (0, .ref (a)), (1, .int (nI j)), (2, .int (nI t))]) S.1 S.2.1 dX1_powerAt_27 hl (by decide) rfl (fun ls hl => ?_)
      refine wlp (P := fun k_ ls H' locs' => ∃ (i : Nat), lv_has ls 6 [(0, .ref (a)), (1, .int (nI j)), (2, .int (nI t)), (3, .long (lN (cd L j / 10 ^ (i - (t + 1))))), (5, .int (nI i))] ∧ (H = H' ∧ locs = locs') ∧ (t + 1 ≤ i) ∧ (i ≤ 16) ∧ k_ = 16 - i) ?_ (k0 := 16 - (t + 1)) ⟨t + 1, lv_sub hl [2, 3, 4, 1, 0] rfl, ⟨rfl, rfl⟩, by omega, by omega, rfl⟩
      intro k29 ls H' locs' hP ih29
      obtain ⟨i, hl, ⟨rfl, rfl⟩, h1i, h2i, hk29⟩ := hP
      refine lv_iload S.1 S.2.1 dX1_powerAt_29 (lv_at hl 4 rfl) ?_
      refine lv_bipush (v := nI 16) S.1 S.2.1 dX1_powerAt_31 (by decide) ?_
      refine bn_ge (tgt := 48) S dX1_powerAt_33 (by decide) (by omega) (fun c33 => ?_) (fun c33 => ?_)
      · skip
        refine lv_lload_n S.1 S.2.1 dX1_powerAt_48 rfl (lv_at hl 3 rfl) ?_
        refine lv_ldc2 S.1 S.2.1 S.2.2.2.1 (S.2.2.2.2 _ mW184) dX1_powerAt_49 ?_
        refine tpl (x' := lI 10) (by decide) ?_
        refine lv_lrem S.1 S.2.1 dX1_powerAt_52 (by decide) ?_
        refine tpl (x' := lN (cd L j / 10 ^ (i - (t + 1)) % 10)) (rem10 hb) ?_
        refine lv_l2i (v := nI (cd L j / 10 ^ (i - (t + 1)) % 10)) S.1 S.2.1 dX1_powerAt_53 (lN_i _) ?_
        exact rt_i S hr hlk hH dX1_powerAt_54 (⟨rfl, rfl, Or.inl ⟨j, t, hj, ht, rfl, rfl, by rw [show i = 16 by omega]; unfold dig; rw [show 16 - (t + 1) = 15 - t by omega]⟩⟩)
      · skip
        refine lv_lload_n S.1 S.2.1 dX1_powerAt_36 rfl (lv_at hl 3 rfl) ?_
        refine lv_ldc2 S.1 S.2.1 S.2.2.2.1 (S.2.2.2.2 _ mW184) dX1_powerAt_37 ?_
        refine tpl (x' := lI 10) (by decide) ?_
        refine lv_ldiv S.1 S.2.1 dX1_powerAt_40 (by decide) ?_
        refine tpl (x' := lN (cd L j / 10 ^ (i + 1 - (t + 1)))) (div10 hb h1i) ?_
        refine lv_lstore_n (lv' := [(3, .long (lN (cd L j / 10 ^ (i + 1 - (t + 1))))), (0, .ref (a)), (1, .int (nI j)), (2, .int (nI t)), (5, .int (nI i))]) S.1 S.2.1 dX1_powerAt_41 rfl hl (by decide) rfl (fun ls hl => ?_)
        refine lv_iinc (v := nI (i + 1)) (lv' := [(5, .int (nI (i + 1))), (3, .long (lN (cd L j / 10 ^ (i + 1 - (t + 1))))), (0, .ref (a)), (1, .int (nI j)), (2, .int (nI t))]) S.1 S.2.1 dX1_powerAt_42 hl (k := 4) rfl (nI_inc _ 1) (by decide) rfl (fun ls hl => ?_)
        refine lv_goto (tgt := 29) S.1 S.2.1 dX1_powerAt_45 (by decide) ?_
        exact ih29 _ _ _ _ (by omega) ⟨i + 1, lv_sub hl [2, 3, 4, 1, 0] rfl, ⟨rfl, rfl⟩, by omega, by omega, rfl⟩
    · skip
      rcases hq2 with ⟨rfl, _⟩ | ⟨_, hq2⟩
      · exact absurd c12 (by decide)
      refine lv_iconst (v := nI 0) S.1 S.2.1 dX1_powerAt_15 (by decide) ?_
      exact rt_i S hr hlk hH dX1_powerAt_16 (⟨rfl, rfl, Or.inr ⟨fun ⟨j, t, _, h, _, h2⟩ => hq2 ⟨t, h, h2⟩, rfl⟩⟩)

set_option maxHeartbeats 4000000 in
set_option maxRecDepth 100000 in
theorem kX1_matches {l : Launch} {G : Gx} {B : Nat} {w : Wm} {n : Nat} (a cap : Nat) (L : PL) (tk : Int32) (tp : Nat → Int32) (a2 cap2 : Nat) (L2 : PL) (tk2 : Int32) (tp2 : Nat → Int32) (hp : PolyC G w a cap L tk tp) (hq : PolyC G w a2 cap2 L2 tk2 tp2) (hok : (∀ j, j < L.length → cd L j < 4611686018427387904 ∧ -2147483648 ≤ cf L j ∧ cf L j < 2147483648)) (hok2 : (∀ j, j < L2.length → cd L2 j < 4611686018427387904 ∧ -2147483648 ≤ cf L2 j ∧ cf L2 j < 2147483648)) : Met l yX1_matches (wsM yX1_matches cX1_matches 3 (some .boolean)) ({ frames := 0, cells := 0, slots := 0, locals := 0 } : Room) (Pcx G B w n [.ref (a), .ref (a2)]) (Qi G B (fun r w' n' => w' = w ∧ n' = n ∧ ((r = 1 ∧ L = L2) ∨ (r = 0 ∧ L ≠ L2)))) 0 0 (FA B) := by
  refine en (by decide) (Nat.le_of_ble_eq_true rfl) ?_
  intro p ev s mm ag bl mt co S hr hlk hnm hK H hH ls hl
  have hl : lv_has ls 3 [(0, .ref (a)), (1, .ref (a2))] := hl
  obtain ⟨f, g, h0, h1, h2, h3, h4, h5, h6, h7, h8⟩ := hp
  obtain ⟨f2, g2, hq0, hq1, hq2, hq3, hq4, hq5, hq6, hq7, hq8⟩ := hq
  refine lv_aload_n S.1 S.2.1 dX1_matches_0 rfl (lv_at hl 0 rfl) ?_
  refine gfX1_28 S hK hH h0 dX1_matches_1 ?_
  refine lv_aload_n S.1 S.2.1 dX1_matches_4 rfl (lv_at hl 1 rfl) ?_
  refine gfX1_28 S hK hH hq0 dX1_matches_5 ?_
  refine bn_eq (tgt := 13) S dX1_matches_8 (by decide) (by omega) (fun c8 => ?_) (fun c8 => ?_)
  · skip
    refine lv_iconst (v := nI 0) S.1 S.2.1 dX1_matches_13 (by decide) ?_
    refine lv_istore_n (lv' := [(2, .int (nI 0)), (0, .ref (a)), (1, .ref (a2))]) S.1 S.2.1 dX1_matches_14 rfl hl (by decide) rfl (fun ls hl => ?_)
    refine wlp (P := fun k_ ls H' locs' => ∃ (k : Nat), lv_has ls 3 [(0, .ref (a)), (1, .ref (a2)), (2, .int (nI k))] ∧ (H = H' ∧ [] = locs') ∧ (k ≤ L.length) ∧ (∀ i, i < k → cd L i = cd L2 i ∧ cf L i = cf L2 i) ∧ k_ = L.length - k) ?_ (k0 := L.length - (0)) ⟨0, lv_sub hl [1, 2, 0] rfl, ⟨rfl, rfl⟩, Nat.zero_le _, fun i h => absurd h (Nat.not_lt_zero i), rfl⟩
    intro k15 ls H' locs' hP ih15
    obtain ⟨k, hl, ⟨rfl, rfl⟩, hk, hsm, hk15⟩ := hP
    refine lv_iload_n S.1 S.2.1 dX1_matches_15 rfl (lv_at hl 2 rfl) ?_
    refine lv_aload_n S.1 S.2.1 dX1_matches_16 rfl (lv_at hl 0 rfl) ?_
    refine gfX1_28 S hK hH h0 dX1_matches_17 ?_
    refine bn_ge (tgt := 62) S dX1_matches_20 (by decide) (by omega) (fun c20 => ?_) (fun c20 => ?_)
    · skip
      refine lv_iconst (v := nI 1) S.1 S.2.1 dX1_matches_62 (by decide) ?_
      exact rt_z S hr hlk hH dX1_matches_63 (by decide) (⟨rfl, rfl, Or.inl ⟨rfl, pl_ext c8 (fun i hi => hsm i (by omega))⟩⟩)
    · skip
      have hb := hok k c20
      have hb2 := hok2 k (by omega)
      refine lv_aload_n S.1 S.2.1 dX1_matches_23 rfl (lv_at hl 0 rfl) ?_
      refine gfX1_18 S hK hH h0 dX1_matches_24 ?_
      refine lv_iload_n S.1 S.2.1 dX1_matches_27 rfl (lv_at hl 2 rfl) ?_
      refine ald_l S hK hH h1 (by omega) (by omega) dX1_matches_28 ?_
      refine tpl (x' := lN (cd L k)) (h6 k c20) ?_
      refine lv_aload_n S.1 S.2.1 dX1_matches_29 rfl (lv_at hl 1 rfl) ?_
      refine gfX1_18 S hK hH hq0 dX1_matches_30 ?_
      refine lv_iload_n S.1 S.2.1 dX1_matches_33 rfl (lv_at hl 2 rfl) ?_
      refine ald_l S hK hH hq1 (by omega) (by omega) dX1_matches_34 ?_
      refine tpl (x' := lN (cd L2 k)) (hq6 k (by omega)) ?_
      refine bl_ne (tgt := 54) S dX1_matches_35 dX1_matches_36 (by decide) (fun c35 => ?_) (fun c35 => ?_)
      · skip
        have c35 : cd L k ≠ cd L2 k := fun q => c35 (by rw [q])
        refine lv_iconst (v := nI 0) S.1 S.2.1 dX1_matches_54 (by decide) ?_
        exact rt_z S hr hlk hH dX1_matches_55 (by decide) (⟨rfl, rfl, Or.inr ⟨rfl, fun q => c35 (by rw [q])⟩⟩)
      · skip
        have c35 : cd L k = cd L2 k := (pk_lEQ (by omega) (by omega)).mp c35
        refine lv_aload_n S.1 S.2.1 dX1_matches_39 rfl (lv_at hl 0 rfl) ?_
        refine gfX1_24 S hK hH h0 dX1_matches_40 ?_
        refine lv_iload_n S.1 S.2.1 dX1_matches_43 rfl (lv_at hl 2 rfl) ?_
        refine ald_i S hK hH h2 (by omega) (by omega) dX1_matches_44 ?_
        refine tpi (x' := iI (cf L k)) (h7 k c20) ?_
        refine lv_aload_n S.1 S.2.1 dX1_matches_45 rfl (lv_at hl 1 rfl) ?_
        refine gfX1_24 S hK hH hq0 dX1_matches_46 ?_
        refine lv_iload_n S.1 S.2.1 dX1_matches_49 rfl (lv_at hl 2 rfl) ?_
        refine ald_i S hK hH hq2 (by omega) (by omega) dX1_matches_50 ?_
        refine tpi (x' := iI (cf L2 k)) (hq7 k (by omega)) ?_
        refine lv_icmp_eq (tgt := 56) S.1 S.2.1 dX1_matches_51 (by decide) (fun c51 => ?_) (fun c51 => ?_)
        · skip
          have c51 : cf L k = cf L2 k := (iI_eq (by omega) (by omega)).mp c51
          refine lv_iinc (v := nI (k + 1)) (lv' := [(2, .int (nI (k + 1))), (0, .ref (a)), (1, .ref (a2))]) S.1 S.2.1 dX1_matches_56 hl (k := 2) rfl (nI_inc _ 1) (by decide) rfl (fun ls hl => ?_)
          refine lv_goto (tgt := 15) S.1 S.2.1 dX1_matches_59 (by decide) ?_
          exact ih15 _ _ _ _ (by omega) ⟨k + 1, lv_sub hl [1, 2, 0] rfl, ⟨rfl, rfl⟩, c20, lt_s hsm ⟨c35, c51⟩, rfl⟩
        · skip
          have c51 : cf L k ≠ cf L2 k := fun q => c51 (by rw [q])
          refine lv_iconst (v := nI 0) S.1 S.2.1 dX1_matches_54 (by decide) ?_
          exact rt_z S hr hlk hH dX1_matches_55 (by decide) (⟨rfl, rfl, Or.inr ⟨rfl, fun q => c51 (by rw [q])⟩⟩)
  · skip
    refine lv_iconst (v := nI 0) S.1 S.2.1 dX1_matches_11 (by decide) ?_
    exact rt_z S hr hlk hH dX1_matches_12 (by decide) (⟨rfl, rfl, Or.inr ⟨rfl, fun q => c8 (by rw [q])⟩⟩)

