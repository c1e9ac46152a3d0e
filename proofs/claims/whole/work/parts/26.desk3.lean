section S26
variable {σ : St} {x v a b : Int32} {z : Int} {j p q t : Nat} {M : PL}
theorem sConst_bad (h : ri x = none) : sConst σ x v = (-1, σ) := by rw [sConst, h]
theorem sConst_big (hj : j < 16) (hz : -2147483648 ≤ z ∧ z < 2147483648) (h : 99999999 < z ∨ z < -99999999) : sConst σ (nI j) (iI z) = (-2, σ) := by
  rw [sConst, ri_some hj]; simp only [iI_toInt hz]; rw [if_pos h]
theorem sConst_ok (hj : j < 16) (hz : -2147483648 ≤ z ∧ z < 2147483648) (h : -99999999 ≤ z ∧ z ≤ 99999999) : sConst σ (nI j) (iI z) = (nI (one 0 z).length, (va_up σ.1 j (one 0 z), σ.2)) := by
  rw [sConst, ri_some hj]; simp only [iI_toInt hz]; rw [if_neg (by omega)]
theorem sSym_bad (h : ri x = none ∨ ri v = none) : sSym σ x v = (-1, σ) := by
  unfold sSym
  rcases h with h | h <;> rw [h] <;> cases ri x <;> cases ri v <;> rfl
theorem sSym_ok (hj : j < 16) (ht : t < 16) : sSym σ (nI j) (nI t) = (nI (one (scode t) 1).length, (va_up σ.1 j (one (scode t) 1), σ.2)) := by
  rw [sSym, ri_some hj, ri_some ht]; rfl
theorem sTimes_bad (h : ri x = none ∨ ri a = none ∨ ri b = none) : sTimes σ x a b = (-1, σ) := by
  unfold sTimes
  rcases h with h | h | h <;> rw [h] <;> cases ri x <;> cases ri a <;> cases ri b <;> rfl
theorem sTimes_none (hj : j < 16) (hp : p < 16) (hq : q < 16) (e : pmul (σ.1 p) (σ.1 q) = none) : sTimes σ (nI j) (nI p) (nI q) = (-2, σ) := by
  rw [sTimes, ri_some hj, ri_some hp, ri_some hq]; simp only [e]
theorem sTimes_some (hj : j < 16) (hp : p < 16) (hq : q < 16) (e : pmul (σ.1 p) (σ.1 q) = some M) : sTimes σ (nI j) (nI p) (nI q) = (nI M.length, (va_up σ.1 j M, σ.2)) := by
  rw [sTimes, ri_some hj, ri_some hp, ri_some hq]; simp only [e]
theorem sPut_bad (h : ri x = none ∨ ri a = none) : sPut σ x a = (-1, σ) := by
  unfold sPut
  rcases h with h | h <;> rw [h] <;> cases ri x <;> cases ri a <;> rfl
theorem sPut_none (hj : j < 16) (hp : p < 16) (e : pput σ.1 (σ.1 p) [] = none) : sPut σ (nI j) (nI p) = (-2, σ) := by
  rw [sPut, ri_some hj, ri_some hp]; simp only [e]
theorem sPut_some (hj : j < 16) (hp : p < 16) (e : pput σ.1 (σ.1 p) [] = some M) : sPut σ (nI j) (nI p) = (nI M.length, (va_up σ.1 j M, σ.2)) := by
  rw [sPut, ri_some hj, ri_some hp]; simp only [e]
theorem sSame_bad (h : ri x = none ∨ ri v = none) : sSame σ x v = -1 := by
  unfold sSame
  rcases h with h | h <;> rw [h] <;> cases ri x <;> cases ri v <;> rfl
theorem sSame_ok (hj : j < 16) (hq : q < 16) : sSame σ (nI j) (nI q) = if σ.1 j = σ.1 q then 1 else 0 := by
  rw [sSame, ri_some hj, ri_some hq]
variable {R : Nat → PL} {L acc A2 : PL} {k : Nat}
theorem pput_some (hk : k < L.length) (e1 : pterm R (cd L k, cf L k) = some M) (e2 : padd 1 acc M = some A2) : pput R (L.drop k) acc = pput R (L.drop (k + 1)) A2 := by
  rw [drop_cd hk, pput, e1, Option.bind_some, e2]; rfl
theorem pput_none1 (hk : k < L.length) (e1 : pterm R (cd L k, cf L k) = none) : pput R (L.drop k) acc = none := by
  rw [drop_cd hk, pput, e1]; rfl
theorem pput_none2 (hk : k < L.length) (e1 : pterm R (cd L k, cf L k) = some M) (e2 : padd 1 acc M = none) : pput R (L.drop k) acc = none := by
  rw [drop_cd hk, pput, e1, Option.bind_some, e2]; rfl
theorem pput_end (hk : L.length ≤ k) : pput R (L.drop k) acc = some acc := by
  rw [List.drop_of_length_le hk]; rfl
theorem sTerm_c {y wh r : Int32} (hj : j < 16) (hl : (σ.1 j).length ≤ 60) (hw : wh = -1) (h : (∃ i, i < (σ.1 j).length ∧ y = nI i ∧ r = iI (cf (σ.1 j) i)) ∨ ((¬ ∃ i, i < (σ.1 j).length ∧ y = nI i) ∧ r = 0)) : r = sTerm σ (nI j) y wh := by
  rw [sTerm, ri_some hj]
  rcases h with ⟨i, h1, rfl, h3⟩ | ⟨h1, h2⟩
  · simp only [nI_toInt (show i < 2 ^ 31 by omega), Int.toNat_natCast]
    rw [if_pos (by omega), if_pos hw, h3]
  · simp only []
    rw [if_neg, h2]
    intro e
    refine h1 ⟨y.toInt.toNat, by omega, ?_⟩
    rw [← Int32.toInt_inj, nI_toInt (by omega)]
    omega
theorem sTerm_p {y wh r : Int32} (hj : j < 16) (hl : (σ.1 j).length ≤ 60) (hw : wh ≠ -1) (h : (∃ i t, i < (σ.1 j).length ∧ t < 16 ∧ y = nI i ∧ wh = nI t ∧ r = nI (dig (cd (σ.1 j) i) t)) ∨ ((¬ ∃ i t, i < (σ.1 j).length ∧ t < 16 ∧ y = nI i ∧ wh = nI t) ∧ r = 0)) : r = sTerm σ (nI j) y wh := by
  rw [sTerm, ri_some hj]
  rcases h with ⟨i, t, h1, h2, rfl, rfl, h3⟩ | ⟨h1, h2⟩
  · simp only [nI_toInt (show i < 2 ^ 31 by omega), Int.toNat_natCast]
    rw [if_pos (by omega), if_neg hw, ri_some h2, h3]
  · simp only []
    by_cases e : 0 ≤ y.toInt ∧ y.toInt < (σ.1 j).length
    · rw [if_pos e, if_neg hw]
      have hy : y = nI y.toInt.toNat := by
        rw [← Int32.toInt_inj, nI_toInt (by omega)]
        omega
      have hn : ri wh = none := by
        apply ri_none
        rintro ⟨t, ht, e2⟩
        exact h1 ⟨y.toInt.toNat, t, by omega, ht, hy, e2⟩
      rw [hn, h2]
    · rw [if_neg e, h2]
end S26
theorem PoolOK.after2 {G : Gx} {w w' : Wm} {n D x y : Nat} {pool : Nat → Nat × PL} (h : PoolOK G w n D pool) (hx : isP D n x) (hy : isP D n y) (h1 : PolyAt G w' x (pool x).1 (pool x).2) (h2 : PolyAt G w' y (pool y).1 (pool y).2) (hf : ∀ b, D + 1 ≤ b → (b < D + 5 ∨ D + 36 ≤ b) → b ≠ x → b ≠ x + 3 → b ≠ y → b ≠ y + 3 → w' b = w b) : PoolOK G w' n D pool := fun a ha => by
  by_cases q : a = x
  · subst q
    exact ⟨h1, (h a ha).2⟩
  · by_cases q2 : a = y
    · subst q2
      exact ⟨h2, (h a ha).2⟩
    · refine ⟨(h a ha).1.kept (fun b g1 g2 => hf b ?_ ?_ ?_ ?_ ?_ ?_), (h a ha).2⟩ <;> (unfold isP at ha hx hy; omega)

set_option maxHeartbeats 4000000 in
set_option maxRecDepth 100000 in
theorem kX2_constant {l : Launch} {G : Gx} {B : Nat} {w : Wm} {n : Nat} (D : Nat) (x v : Int32) (σ : St) (hs : DeskS G w n D σ) : Met l yX2_constant (wsM yX2_constant cX2_constant 3 (some .int)) ({ frames := 4, cells := 4, slots := 141, locals := 87 } : Room) (Pcx G B w n [.ref (D), .int (x), .int (v)]) (Qi G B (fun r w' n' => (n' = n ∨ n' = n + 4) ∧ (∀ b, (D + 23 ≤ b ∧ b < D + 36) → w' b = w b) ∧ r = (sConst σ x v).1 ∧ DeskS G w' n' D (sConst σ x v).2)) 4 141 (FA B) := by
  refine en (by decide) (Nat.le_of_ble_eq_true rfl) ?_
  intro p ev s mm ag bl mt co S hr hlk hnm hK H hH ls hl
  have hl : lv_has ls 3 [(0, .ref (D)), (1, .int (x)), (2, .int (v))] := hl
  obtain ⟨rg, hy, nums, facs, P, T, Z, pool, hd, hi⟩ := hs
  obtain ⟨d0, d5, d6, d7, d8, ⟨bg, d9⟩, ⟨mf, dm⟩, hP, hT, hZ, hpl⟩ := hd
  obtain ⟨hbr, hj, hhc, hpc, hrg, hhy, hnu, hfa⟩ := id hi
  unfold BR at hbr
  obtain ⟨z, hz1, hz2, rfl⟩ := iI_of v
  have hF : ∀ b, D + 23 ≤ b ∧ b < D + 36 → w b = w b := fun _ _ => rfl
  refine lv_iload_n S.1 S.2.1 dX2_constant_0 rfl (lv_at hl 1 rfl) ?_
  refine ck_ip (run_S (As := [.int (x)]) (rest := []) S hK hH (kX2_isRegister x) ceX2_isRegister mW101 rfl hl.1 rfl (Nat.le_of_ble_eq_true rfl) dX2_constant_1 ⟨rfl, rfl, by decide, by decide⟩ ⟨show 0 + 0 ≤ 4 by omega, show 0 + 0 ≤ 141 by omega⟩) hH (fun r1 H locs hp hH => ?_)
  have hq1 : Hid _ := hp
  clear hp
  refine lv_if_ne (tgt := 9) S.1 S.2.1 dX2_constant_4 (by decide) (fun c4 => ?_) (fun c4 => ?_)
  · skip
    rcases hq1 with ⟨_, j, hj0, rfl⟩ | ⟨e, _⟩
    rotate_left
    · exact absurd e c4
    refine lv_iload_n S.1 S.2.1 dX2_constant_9 rfl (lv_at hl 2 rfl) ?_
    refine lv_ldc S.1 S.2.1 S.2.2.2.1 (S.2.2.2.2 _ mW104) dX2_constant_10 ?_
    refine tpi (x' := nI 99999999) (by decide) ?_
    refine tpi (x' := iI 99999999) (rfl) ?_
    refine lv_icmp_gt (tgt := 21) S.1 S.2.1 dX2_constant_12 (by decide) (fun c12 => ?_) (fun c12 => ?_)
    · skip
      have c12 : 99999999 < z := (iI_lt (by omega) (by omega)).mp c12
      refine lv_bipush (v := (-2)) S.1 S.2.1 dX2_constant_21 (by decide) ?_
      refine W.widen (k := 4) (n := 141) (by omega) (by omega) ?_
      exact rt_i S hr hlk hH dX2_constant_23 (⟨Or.inl rfl, hF, by rw [sConst_big hj0 ⟨hz1, hz2⟩ (Or.inl c12)], by rw [sConst_big hj0 ⟨hz1, hz2⟩ (Or.inl c12)]; exact ⟨_, _, _, _, P, T, Z, _, ⟨d0, d5, d6, d7, d8, ⟨_, d9⟩, ⟨_, dm⟩, hP, hT, hZ, hpl⟩, hi⟩⟩)
    · skip
      have c12 : ¬ 99999999 < z := fun q => c12 ((iI_lt (by omega) (by omega)).mpr q)
      refine lv_iload_n S.1 S.2.1 dX2_constant_15 rfl (lv_at hl 2 rfl) ?_
      refine lv_ldc S.1 S.2.1 S.2.2.2.1 (S.2.2.2.2 _ mW105) dX2_constant_16 ?_
      refine tpi (x' := (-99999999)) (by decide) ?_
      refine tpi (x' := iI (-99999999)) (by decide) ?_
      refine lv_icmp_ge (tgt := 24) S.1 S.2.1 dX2_constant_18 (by decide) (fun c18 => ?_) (fun c18 => ?_)
      · skip
        have c18 : -99999999 ≤ z := (iI_le (by omega) (by omega)).mp c18
        refine lv_aload_n S.1 S.2.1 dX2_constant_24 rfl (lv_at hl 0 rfl) ?_
        refine gfX2_38 S hK hH d0 dX2_constant_25 ?_
        refine lv_lconst (v := lI 0) S.1 S.2.1 dX2_constant_28 (by decide) ?_
        refine tpl (x' := lN 0) (rfl) ?_
        refine lv_iload_n S.1 S.2.1 dX2_constant_29 rfl (lv_at hl 2 rfl) ?_
        refine ck_v (run_VN (As := [.long (lN 0), .int (iI z)]) (rest := []) S hK hH (kX0_beginProduct (D + 9) P 0 z (.ref T) (.ref Z) (.ref (D + 22)) (.int bg) d9 hP (by omega) (by omega)) ceX0_beginProduct mN106 d9 rfl rfl hl.1 rfl (Nat.le_of_ble_eq_true rfl) dX2_constant_30 ⟨rfl, rfl, by decide, by decide⟩ ⟨show 0 + 0 ≤ 4 by omega, show 0 + 0 ≤ 141 by omega⟩) hH (fun w2 n2 H locs hp hH => ?_)
        obtain ⟨hn1, hfr, hPM⟩ := hp
        rw [hn1] at hH
        have hP := hPM.raw
        replace d0 := (hfr (D) (by omega)).trans d0
        replace d5 := (hfr (D + 5) (by omega)).trans d5
        replace d6 := (hfr (D + 6) (by omega)).trans d6
        replace d7 := (hfr (D + 7) (by omega)).trans d7
        replace d8 := (hfr (D + 8) (by omega)).trans d8
        replace d9 := (hfr (D + 9) (by omega)).trans d9
        replace dm := (hfr (D + 22) (by omega)).trans dm
        replace hT := hT.kept (fun b h1 h2 => hfr b (by omega))
        replace hZ := hZ.kept (fun b h1 h2 => hfr b (by omega))
        replace hpl := hpl.kept (fun b h1 h2 => hfr b (by omega))
        replace hF : ∀ b, D + 23 ≤ b ∧ b < D + 36 → w2 b = w b := fun b hb => (hfr b (by omega)).trans (hF b hb)
        refine lv_aload_n S.1 S.2.1 dX2_constant_33 rfl (lv_at hl 0 rfl) ?_
        refine lv_iload_n S.1 S.2.1 dX2_constant_34 rfl (lv_at hl 1 rfl) ?_
        refine lv_aload_n S.1 S.2.1 dX2_constant_35 rfl (lv_at hl 0 rfl) ?_
        refine gfX2_38 S hK hH d0 dX2_constant_36 ?_
        refine gfX2_52 S hK hH d9 dX2_constant_39 ?_
        refine ck_i (run_V (As := [.int (nI j), .ref (P)]) (rest := []) S hK hH (kX2_store D j P (one 0 z) rg hy nums facs P T Z pool σ ⟨d0, d5, d6, d7, d8, ⟨_, d9⟩, ⟨_, dm⟩, hP, hT, hZ, hpl⟩ hi hPM (Or.inl rfl) (one_ok vC_0 (by omega)) hj0) ceX2_store mW120 d0 rfl rfl hl.1 rfl (Nat.le_of_ble_eq_true rfl) dX2_constant_42 ⟨rfl, rfl, by decide, by decide⟩ ⟨show 0 + 4 ≤ 4 by omega, show 0 + 141 ≤ 141 by omega⟩) hH (fun r42 w3 n3 H locs hp hH => ?_)
        obtain ⟨hn1, hfr, hr1, hs1⟩ := hp
        rw [hn1] at hH
        replace hF : ∀ b, D + 23 ≤ b ∧ b < D + 36 → w3 b = w b := fun b hb => (hfr b (by omega)).trans (hF b hb)
        refine W.widen (k := 4) (n := 141) (by omega) (by omega) ?_
        exact rt_i S hr hlk hH dX2_constant_45 (⟨Or.inr rfl, hF, by rw [sConst_ok hj0 ⟨hz1, hz2⟩ (by omega)]; exact hr1, by rw [sConst_ok hj0 ⟨hz1, hz2⟩ (by omega)]; exact hs1⟩)
      · skip
        have c18 : ¬ -99999999 ≤ z := fun q => c18 ((iI_le (by omega) (by omega)).mpr q)
        refine lv_bipush (v := (-2)) S.1 S.2.1 dX2_constant_21 (by decide) ?_
        refine W.widen (k := 4) (n := 141) (by omega) (by omega) ?_
        exact rt_i S hr hlk hH dX2_constant_23 (⟨Or.inl rfl, hF, by rw [sConst_big hj0 ⟨hz1, hz2⟩ (Or.inr (by omega))], by rw [sConst_big hj0 ⟨hz1, hz2⟩ (Or.inr (by omega))]; exact ⟨_, _, _, _, P, T, Z, _, ⟨d0, d5, d6, d7, d8, ⟨_, d9⟩, ⟨_, dm⟩, hP, hT, hZ, hpl⟩, hi⟩⟩)
  · skip
    rcases hq1 with ⟨e, _⟩ | ⟨_, hb⟩
    · rw [e] at c4; exact absurd c4 (by decide)
    refine lv_iconst (v := (-1)) S.1 S.2.1 dX2_constant_7 (by decide) ?_
    refine W.widen (k := 4) (n := 141) (by omega) (by omega) ?_
    exact rt_i S hr hlk hH dX2_constant_8 (⟨Or.inl rfl, hF, by rw [sConst_bad (ri_none hb)], by rw [sConst_bad (ri_none hb)]; exact ⟨_, _, _, _, P, T, Z, _, ⟨d0, d5, d6, d7, d8, ⟨_, d9⟩, ⟨_, dm⟩, hP, hT, hZ, hpl⟩, hi⟩⟩)

set_option maxHeartbeats 4000000 in
set_option maxRecDepth 100000 in
theorem kX2_symbol {l : Launch} {G : Gx} {B : Nat} {w : Wm} {n : Nat} (D : Nat) (x v : Int32) (σ : St) (hs : DeskS G w n D σ) : Met l yX2_symbol (wsM yX2_symbol cX2_symbol 3 (some .int)) ({ frames := 4, cells := 4, slots := 141, locals := 87 } : Room) (Pcx G B w n [.ref (D), .int (x), .int (v)]) (Qi G B (fun r w' n' => (n' = n ∨ n' = n + 4) ∧ (∀ b, (D + 23 ≤ b ∧ b < D + 36) → w' b = w b) ∧ r = (sSym σ x v).1 ∧ DeskS G w' n' D (sSym σ x v).2)) 4 141 (FA B) := by
  refine en (by decide) (Nat.le_of_ble_eq_true rfl) ?_
  intro p ev s mm ag bl mt co S hr hlk hnm hK H hH ls hl
  have hl : lv_has ls 3 [(0, .ref (D)), (1, .int (x)), (2, .int (v))] := hl
  obtain ⟨rg, hy, nums, facs, P, T, Z, pool, hd, hi⟩ := hs
  obtain ⟨d0, d5, d6, d7, d8, ⟨bg, d9⟩, ⟨mf, dm⟩, hP, hT, hZ, hpl⟩ := hd
  obtain ⟨hbr, hj, hhc, hpc, hrg, hhy, hnu, hfa⟩ := id hi
  unfold BR at hbr
  have hF : ∀ b, D + 23 ≤ b ∧ b < D + 36 → w b = w b := fun _ _ => rfl
  refine lv_iload_n S.1 S.2.1 dX2_symbol_0 rfl (lv_at hl 1 rfl) ?_
  refine ck_ip (run_S (As := [.int (x)]) (rest := []) S hK hH (kX2_isRegister x) ceX2_isRegister mW101 rfl hl.1 rfl (Nat.le_of_ble_eq_true rfl) dX2_symbol_1 ⟨rfl, rfl, by decide, by decide⟩ ⟨show 0 + 0 ≤ 4 by omega, show 0 + 0 ≤ 141 by omega⟩) hH (fun r1 H locs hp hH => ?_)
  have hq1 : Hid _ := hp
  clear hp
  refine lv_if_eq (tgt := 14) S.1 S.2.1 dX2_symbol_4 (by decide) (fun c4 => ?_) (fun c4 => ?_)
  · skip
    rcases hq1 with ⟨e, _⟩ | ⟨_, hb⟩
    · rw [e] at c4; exact absurd c4 (by decide)
    refine lv_iconst (v := (-1)) S.1 S.2.1 dX2_symbol_14 (by decide) ?_
    refine W.widen (k := 4) (n := 141) (by omega) (by omega) ?_
    exact rt_i S hr hlk hH dX2_symbol_15 (⟨Or.inl rfl, hF, by rw [sSym_bad (Or.inl (ri_none hb))], by rw [sSym_bad (Or.inl (ri_none hb))]; exact ⟨_, _, _, _, P, T, Z, _, ⟨d0, d5, d6, d7, d8, ⟨_, d9⟩, ⟨_, dm⟩, hP, hT, hZ, hpl⟩, hi⟩⟩)
  · skip
    rcases hq1 with ⟨_, j, hj0, rfl⟩ | ⟨e, _⟩
    rotate_left
    · exact absurd e c4
    refine lv_iload_n S.1 S.2.1 dX2_symbol_7 rfl (lv_at hl 2 rfl) ?_
    refine ck_ip (run_S (As := [.int (v)]) (rest := []) S hK hH (kX2_isSymbol v) ceX2_isSymbol mW135 rfl hl.1 rfl (Nat.le_of_ble_eq_true rfl) dX2_symbol_8 ⟨rfl, rfl, by decide, by decide⟩ ⟨show 0 + 0 ≤ 4 by omega, show 0 + 0 ≤ 141 by omega⟩) hH (fun r8 H locs hp hH => ?_)
    have hq2 : Hid _ := hp
    clear hp
    refine lv_if_ne (tgt := 16) S.1 S.2.1 dX2_symbol_11 (by decide) (fun c11 => ?_) (fun c11 => ?_)
    · skip
      rcases hq2 with ⟨_, t, ht0, rfl⟩ | ⟨e, _⟩
      rotate_left
      · exact absurd e c11
      refine lv_aload_n S.1 S.2.1 dX2_symbol_16 rfl (lv_at hl 0 rfl) ?_
      refine gfX2_38 S hK hH d0 dX2_symbol_17 ?_
      refine lv_iload_n S.1 S.2.1 dX2_symbol_20 rfl (lv_at hl 2 rfl) ?_
      refine ck_lp (run_S (As := [.int (nI t)]) (rest := [.ref (D + 9)]) S hK hH (kX2_symbolCode t ht0) ceX2_symbolCode mW138 rfl hl.1 rfl (Nat.le_of_ble_eq_true rfl) dX2_symbol_21 ⟨rfl, rfl, by decide, by decide⟩ ⟨show 0 + 0 ≤ 4 by omega, show 0 + 0 ≤ 141 by omega⟩) hH (fun r21 H locs hp hH => ?_)
      obtain rfl := hp
      refine lv_iconst (v := nI 1) S.1 S.2.1 dX2_symbol_24 (by decide) ?_
      refine ck_v (run_VN (As := [.long (lN (scode t)), .int (iI 1)]) (rest := []) S hK hH (kX0_beginProduct (D + 9) P (scode t) 1 (.ref T) (.ref Z) (.ref (D + 22)) (.int bg) d9 hP (by omega) (by omega)) ceX0_beginProduct mN106 d9 rfl rfl hl.1 rfl (Nat.le_of_ble_eq_true rfl) dX2_symbol_25 ⟨rfl, rfl, by decide, by decide⟩ ⟨show 0 + 0 ≤ 4 by omega, show 0 + 0 ≤ 141 by omega⟩) hH (fun w4 n4 H locs hp hH => ?_)
      obtain ⟨hn1, hfr, hPM⟩ := hp
      rw [hn1] at hH
      have hP := hPM.raw
      replace d0 := (hfr (D) (by omega)).trans d0
      replace d5 := (hfr (D + 5) (by omega)).trans d5
      replace d6 := (hfr (D + 6) (by omega)).trans d6
      replace d7 := (hfr (D + 7) (by omega)).trans d7
      replace d8 := (hfr (D + 8) (by omega)).trans d8
      replace d9 := (hfr (D + 9) (by omega)).trans d9
      replace dm := (hfr (D + 22) (by omega)).trans dm
      replace hT := hT.kept (fun b h1 h2 => hfr b (by omega))
      replace hZ := hZ.kept (fun b h1 h2 => hfr b (by omega))
      replace hpl := hpl.kept (fun b h1 h2 => hfr b (by omega))
      replace hF : ∀ b, D + 23 ≤ b ∧ b < D + 36 → w4 b = w b := fun b hb => (hfr b (by omega)).trans (hF b hb)
      refine lv_aload_n S.1 S.2.1 dX2_symbol_28 rfl (lv_at hl 0 rfl) ?_
      refine lv_iload_n S.1 S.2.1 dX2_symbol_29 rfl (lv_at hl 1 rfl) ?_
      refine lv_aload_n S.1 S.2.1 dX2_symbol_30 rfl (lv_at hl 0 rfl) ?_
      refine gfX2_38 S hK hH d0 dX2_symbol_31 ?_
      refine gfX2_52 S hK hH d9 dX2_symbol_34 ?_
      refine ck_i (run_V (As := [.int (nI j), .ref (P)]) (rest := []) S hK hH (kX2_store D j P (one (scode t) 1) rg hy nums facs P T Z pool σ ⟨d0, d5, d6, d7, d8, ⟨_, d9⟩, ⟨_, dm⟩, hP, hT, hZ, hpl⟩ hi hPM (Or.inl rfl) (one_ok (vC_s t ht0) (by omega)) hj0) ceX2_store mW120 d0 rfl rfl hl.1 rfl (Nat.le_of_ble_eq_true rfl) dX2_symbol_37 ⟨rfl, rfl, by decide, by decide⟩ ⟨show 0 + 4 ≤ 4 by omega, show 0 + 141 ≤ 141 by omega⟩) hH (fun r37 w5 n5 H locs hp hH => ?_)
      obtain ⟨hn1, hfr, hr1, hs1⟩ := hp
      rw [hn1] at hH
      replace hF : ∀ b, D + 23 ≤ b ∧ b < D + 36 → w5 b = w b := fun b hb => (hfr b (by omega)).trans (hF b hb)
      refine W.widen (k := 4) (n := 141) (by omega) (by omega) ?_
      exact rt_i S hr hlk hH dX2_symbol_40 (⟨Or.inr rfl, hF, by rw [sSym_ok hj0 ht0]; exact hr1, by rw [sSym_ok hj0 ht0]; exact hs1⟩)
    · skip
      rcases hq2 with ⟨e, _⟩ | ⟨_, hb⟩
      · rw [e] at c11; exact absurd c11 (by decide)
      refine lv_iconst (v := (-1)) S.1 S.2.1 dX2_symbol_14 (by decide) ?_
      refine W.widen (k := 4) (n := 141) (by omega) (by omega) ?_
      exact rt_i S hr hlk hH dX2_symbol_15 (⟨Or.inl rfl, hF, by rw [sSym_bad (Or.inr (ri_none hb))], by rw [sSym_bad (Or.inr (ri_none hb))]; exact ⟨_, _, _, _, P, T, Z, _, ⟨d0, d5, d6, d7, d8, ⟨_, d9⟩, ⟨_, dm⟩, hP, hT, hZ, hpl⟩, hi⟩⟩)

set_option maxHeartbeats 4000000 in
set_option maxRecDepth 100000 in
theorem kX2_plus {l : Launch} {G : Gx} {B : Nat} {w : Wm} {n : Nat} (D : Nat) (x a b : Int32) (σ : St) (hs : DeskS G w n D σ) : Met l yX2_plus (wsM yX2_plus cX2_plus 4 (some .int)) ({ frames := 5, cells := 4, slots := 141, locals := 111 } : Room) (Pcx G B w n [.ref (D), .int (x), .int (a), .int (b)]) (Qi G B (fun r w' n' => (n' = n ∨ n' = n + 4) ∧ (∀ b, (D + 23 ≤ b ∧ b < D + 36) → w' b = w b) ∧ r = (sComb (1) σ x a b).1 ∧ DeskS G w' n' D (sComb (1) σ x a b).2)) 4 141 (FA B) := by
  refine en (by decide) (Nat.le_of_ble_eq_true rfl) ?_
  intro p ev s mm ag bl mt co S hr hlk hnm hK H hH ls hl
  have hl : lv_has ls 4 [(0, .ref (D)), (1, .int (x)), (2, .int (a)), (3, .int (b))] := hl
  obtain ⟨rg, hy, nums, facs, P, T, Z, pool, hd, hi⟩ := id hs
  have d0 := hd.1
  have hF : ∀ b, D + 23 ≤ b ∧ b < D + 36 → w b = w b := fun _ _ => rfl
  refine lv_aload_n S.1 S.2.1 dX2_plus_0 rfl (lv_at hl 0 rfl) ?_
  refine lv_iload_n S.1 S.2.1 dX2_plus_1 rfl (lv_at hl 1 rfl) ?_
  refine lv_iload_n S.1 S.2.1 dX2_plus_2 rfl (lv_at hl 2 rfl) ?_
  refine lv_iload_n S.1 S.2.1 dX2_plus_3 rfl (lv_at hl 3 rfl) ?_
  refine lv_iconst (v := nI 1) S.1 S.2.1 dX2_plus_4 (by decide) ?_
  refine tpi (x' := iI (1)) (by decide) ?_
  refine ck_i (run_V (As := [.int (x), .int (a), .int (b), .int (iI (1))]) (rest := []) S hK hH (kX2_combine D x a b (1) σ hs (Or.inl rfl)) ceX2_combine mW147 d0 rfl rfl hl.1 rfl (Nat.le_of_ble_eq_true rfl) dX2_plus_5 ⟨rfl, rfl, by decide, by decide⟩ ⟨show 0 + 4 ≤ 4 by omega, show 0 + 141 ≤ 141 by omega⟩) hH (fun r5 w1 n1 H locs hp hH => ?_)
  obtain ⟨hn1, hfr, hr1, hs1⟩ := hp
  replace hF : ∀ b, D + 23 ≤ b ∧ b < D + 36 → w1 b = w b := fun b hb => (hfr b (by omega)).trans (hF b hb)
  refine W.widen (k := 4) (n := 141) (by omega) (by omega) ?_
  exact rt_i S hr hlk hH dX2_plus_8 (⟨hn1, hF, hr1, hs1⟩)

set_option maxHeartbeats 4000000 in
set_option maxRecDepth 100000 in
theorem kX2_minus {l : Launch} {G : Gx} {B : Nat} {w : Wm} {n : Nat} (D : Nat) (x a b : Int32) (σ : St) (hs : DeskS G w n D σ) : Met l yX2_minus (wsM yX2_minus cX2_minus 4 (some .int)) ({ frames := 5, cells := 4, slots := 141, locals := 111 } : Room) (Pcx G B w n [.ref (D), .int (x), .int (a), .int (b)]) (Qi G B (fun r w' n' => (n' = n ∨ n' = n + 4) ∧ (∀ b, (D + 23 ≤ b ∧ b < D + 36) → w' b = w b) ∧ r = (sComb (-1) σ x a b).1 ∧ DeskS G w' n' D (sComb (-1) σ x a b).2)) 4 141 (FA B) := by
  refine en (by decide) (Nat.le_of_ble_eq_true rfl) ?_
  intro p ev s mm ag bl mt co S hr hlk hnm hK H hH ls hl
  have hl : lv_has ls 4 [(0, .ref (D)), (1, .int (x)), (2, .int (a)), (3, .int (b))] := hl
  obtain ⟨rg, hy, nums, facs, P, T, Z, pool, hd, hi⟩ := id hs
  have d0 := hd.1
  have hF : ∀ b, D + 23 ≤ b ∧ b < D + 36 → w b = w b := fun _ _ => rfl
  refine lv_aload_n S.1 S.2.1 dX2_minus_0 rfl (lv_at hl 0 rfl) ?_
  refine lv_iload_n S.1 S.2.1 dX2_minus_1 rfl (lv_at hl 1 rfl) ?_
  refine lv_iload_n S.1 S.2.1 dX2_minus_2 rfl (lv_at hl 2 rfl) ?_
  refine lv_iload_n S.1 S.2.1 dX2_minus_3 rfl (lv_at hl 3 rfl) ?_
  refine lv_iconst (v := (-1)) S.1 S.2.1 dX2_minus_4 (by decide) ?_
  refine tpi (x' := iI (-1)) (by decide) ?_
  refine ck_i (run_V (As := [.int (x), .int (a), .int (b), .int (iI (-1))]) (rest := []) S hK hH (kX2_combine D x a b (-1) σ hs (Or.inr rfl)) ceX2_combine mW147 d0 rfl rfl hl.1 rfl (Nat.le_of_ble_eq_true rfl) dX2_minus_5 ⟨rfl, rfl, by decide, by decide⟩ ⟨show 0 + 4 ≤ 4 by omega, show 0 + 141 ≤ 141 by omega⟩) hH (fun r5 w1 n1 H locs hp hH => ?_)
  obtain ⟨hn1, hfr, hr1, hs1⟩ := hp
  replace hF : ∀ b, D + 23 ≤ b ∧ b < D + 36 → w1 b = w b := fun b hb => (hfr b (by omega)).trans (hF b hb)
  refine W.widen (k := 4) (n := 141) (by omega) (by omega) ?_
  exact rt_i S hr hlk hH dX2_minus_8 (⟨hn1, hF, hr1, hs1⟩)

set_option maxHeartbeats 4000000 in
set_option maxRecDepth 100000 in
theorem kX2_times {l : Launch} {G : Gx} {B : Nat} {w : Wm} {n : Nat} (D : Nat) (x a b : Int32) (σ : St) (hs : DeskS G w n D σ) : Met l yX2_times (wsM yX2_times cX2_times 4 (some .int)) ({ frames := 5, cells := 4, slots := 141, locals := 120 } : Room) (Pcx G B w n [.ref (D), .int (x), .int (a), .int (b)]) (Qi G B (fun r w' n' => (n' = n ∨ n' = n + 4) ∧ (∀ b, (D + 23 ≤ b ∧ b < D + 36) → w' b = w b) ∧ r = (sTimes σ x a b).1 ∧ DeskS G w' n' D (sTimes σ x a b).2)) 4 141 (FA B) := by
  refine en (by decide) (Nat.le_of_ble_eq_true rfl) ?_
  intro p ev s mm ag bl mt co S hr hlk hnm hK H hH ls hl
  have hl : lv_has ls 4 [(0, .ref (D)), (1, .int (x)), (2, .int (a)), (3, .int (b))] := hl
  obtain ⟨rg, hy, nums, facs, P, T, Z, pool, hd, hi⟩ := hs
  obtain ⟨d0, d5, d6, d7, d8, ⟨bg, d9⟩, ⟨mf, dm⟩, hP, hT, hZ, hpl⟩ := hd
  obtain ⟨hbr, hj, hhc, hpc, hrg, hhy, hnu, hfa⟩ := id hi
  unfold BR at hbr
  have hF : ∀ b, D + 23 ≤ b ∧ b < D + 36 → w b = w b := fun _ _ => rfl
  refine lv_iload_n S.1 S.2.1 dX2_times_0 rfl (lv_at hl 1 rfl) ?_
  refine ck_ip (run_S (As := [.int (x)]) (rest := []) S hK hH (kX2_isRegister x) ceX2_isRegister mW101 rfl hl.1 rfl (Nat.le_of_ble_eq_true rfl) dX2_times_1 ⟨rfl, rfl, by decide, by decide⟩ ⟨show 0 + 0 ≤ 4 by omega, show 0 + 0 ≤ 141 by omega⟩) hH (fun r1 H locs hp hH => ?_)
  have hq1 : Hid _ := hp
  clear hp
  refine lv_if_eq (tgt := 21) S.1 S.2.1 dX2_times_4 (by decide) (fun c4 => ?_) (fun c4 => ?_)
  · skip
    rcases hq1 with ⟨e, _⟩ | ⟨_, hb⟩
    · rw [e] at c4; exact absurd c4 (by decide)
    refine lv_iconst (v := (-1)) S.1 S.2.1 dX2_times_21 (by decide) ?_
    refine W.widen (k := 4) (n := 141) (by omega) (by omega) ?_
    exact rt_i S hr hlk hH dX2_times_22 (⟨Or.inl rfl, hF, by rw [sTimes_bad (Or.inl (ri_none hb))], by rw [sTimes_bad (Or.inl (ri_none hb))]; exact ⟨_, _, _, _, P, T, Z, _, ⟨d0, d5, d6, d7, d8, ⟨_, d9⟩, ⟨_, dm⟩, hP, hT, hZ, hpl⟩, hi⟩⟩)
  · skip
    rcases hq1 with ⟨_, j, hj0, rfl⟩ | ⟨e, _⟩
    rotate_left
    · exact absurd e c4
    refine lv_iload_n S.1 S.2.1 dX2_times_7 rfl (lv_at hl 2 rfl) ?_
    refine ck_ip (run_S (As := [.int (a)]) (rest := []) S hK hH (kX2_isRegister a) ceX2_isRegister mW101 rfl hl.1 rfl (Nat.le_of_ble_eq_true rfl) dX2_times_8 ⟨rfl, rfl, by decide, by decide⟩ ⟨show 0 + 0 ≤ 4 by omega, show 0 + 0 ≤ 141 by omega⟩) hH (fun r8 H locs hp hH => ?_)
    have hq2 : Hid _ := hp
    clear hp
    refine lv_if_eq (tgt := 21) S.1 S.2.1 dX2_times_11 (by decide) (fun c11 => ?_) (fun c11 => ?_)
    · skip
      rcases hq2 with ⟨e, _⟩ | ⟨_, hb⟩
      · rw [e] at c11; exact absurd c11 (by decide)
      refine lv_iconst (v := (-1)) S.1 S.2.1 dX2_times_21 (by decide) ?_
      refine W.widen (k := 4) (n := 141) (by omega) (by omega) ?_
      exact rt_i S hr hlk hH dX2_times_22 (⟨Or.inl rfl, hF, by rw [sTimes_bad (Or.inr (Or.inl (ri_none hb)))], by rw [sTimes_bad (Or.inr (Or.inl (ri_none hb)))]; exact ⟨_, _, _, _, P, T, Z, _, ⟨d0, d5, d6, d7, d8, ⟨_, d9⟩, ⟨_, dm⟩, hP, hT, hZ, hpl⟩, hi⟩⟩)
    · skip
      rcases hq2 with ⟨_, p1, hp0, rfl⟩ | ⟨e, _⟩
      rotate_left
      · exact absurd e c11
      refine lv_iload_n S.1 S.2.1 dX2_times_14 rfl (lv_at hl 3 rfl) ?_
      refine ck_ip (run_S (As := [.int (b)]) (rest := []) S hK hH (kX2_isRegister b) ceX2_isRegister mW101 rfl hl.1 rfl (Nat.le_of_ble_eq_true rfl) dX2_times_15 ⟨rfl, rfl, by decide, by decide⟩ ⟨show 0 + 0 ≤ 4 by omega, show 0 + 0 ≤ 141 by omega⟩) hH (fun r15 H locs hp hH => ?_)
      have hq3 : Hid _ := hp
      clear hp
      refine lv_if_ne (tgt := 23) S.1 S.2.1 dX2_times_18 (by decide) (fun c18 => ?_) (fun c18 => ?_)
      · skip
        rcases hq3 with ⟨_, q1, hq0, rfl⟩ | ⟨e, _⟩
        rotate_left
        · exact absurd e c18
        obtain ⟨xa, xae, xai, xav⟩ := hrg p1 hp0
        have xain := isP_in xai
        have xal := isP_lt (by omega) xai
        obtain ⟨ya, yae, yai, yav⟩ := hrg q1 hq0
        have yain := isP_in yai
        have yal := isP_lt (by omega) yai
        refine lv_aload_n S.1 S.2.1 dX2_times_23 rfl (lv_at hl 0 rfl) ?_
        refine gfX2_38 S hK hH d0 dX2_times_24 ?_
        refine lv_aload_n S.1 S.2.1 dX2_times_27 rfl (lv_at hl 0 rfl) ?_
        refine gfX2_14 S hK hH d0 dX2_times_28 ?_
        refine lv_iload_n S.1 S.2.1 dX2_times_31 rfl (lv_at hl 2 rfl) ?_
        refine ald_a S hK hH d5 (by omega) (by omega) (xae) dX2_times_32 ?_
        refine lv_aload_n S.1 S.2.1 dX2_times_33 rfl (lv_at hl 0 rfl) ?_
        refine gfX2_14 S hK hH d0 dX2_times_34 ?_
        refine lv_iload_n S.1 S.2.1 dX2_times_37 rfl (lv_at hl 3 rfl) ?_
        refine ald_a S hK hH d5 (by omega) (by omega) (yae) dX2_times_38 ?_
        refine ck_i (run_VN (As := [.ref (xa), .ref (ya)]) (rest := []) S hK hH (kX0_makeProduct (D + 9) (D + 22) P T Z xa ya (pool xa).1 (pool ya).1 (pool xa).2 (pool ya).2 bg mf d9 dm hP (hpl xa xai).1 (hpl ya yai).1 (hpl xa xai).2 (hpl ya yai).2 (by omega) (by omega) (by omega) (by omega) (by omega) (by omega) (by omega) (by omega) (by omega) (isP_apart xai yai)) ceX0_makeProduct mN168 d9 rfl rfl hl.1 rfl (Nat.le_of_ble_eq_true rfl) dX2_times_39 ⟨rfl, rfl, by decide, by decide⟩ ⟨show 0 + 0 ≤ 4 by omega, show 0 + 0 ≤ 141 by omega⟩) hH (fun r39 w4 n4 H locs hp hH => ?_)
        obtain ⟨hn1, hfr, ⟨⟨bg, d9⟩, ⟨mf, dm⟩, hxr, hyr, hq4⟩⟩ := hp
        rw [hn1] at hH
        replace hq4 : Hid _ := hq4
        replace d0 := (hfr (D) (by omega)).trans d0
        replace d5 := (hfr (D + 5) (by omega)).trans d5
        replace d6 := (hfr (D + 6) (by omega)).trans d6
        replace d7 := (hfr (D + 7) (by omega)).trans d7
        replace d8 := (hfr (D + 8) (by omega)).trans d8
        replace hT := hT.kept (fun b h1 h2 => hfr b (by omega))
        replace hZ := hZ.kept (fun b h1 h2 => hfr b (by omega))
        replace hF : ∀ b, D + 23 ≤ b ∧ b < D + 36 → w4 b = w b := fun b hb => (hfr b (by omega)).trans (hF b hb)
        have hpl := hpl.after2 xai yai hxr hyr (fun b h1 h2 h3 h4 h5 h6 => hfr b (by omega))
        refine lv_if_ne (tgt := 48) S.1 S.2.1 dX2_times_42 (by decide) (fun c42 => ?_) (fun c42 => ?_)
        · skip
          rcases hq4 with ⟨_, M, e1, hPM⟩ | ⟨e, _⟩
          rotate_left
          · exact absurd e c42
          have hP := hPM.raw
          refine lv_aload_n S.1 S.2.1 dX2_times_48 rfl (lv_at hl 0 rfl) ?_
          refine lv_iload_n S.1 S.2.1 dX2_times_49 rfl (lv_at hl 1 rfl) ?_
          refine lv_aload_n S.1 S.2.1 dX2_times_50 rfl (lv_at hl 0 rfl) ?_
          refine gfX2_38 S hK hH d0 dX2_times_51 ?_
          refine gfX2_52 S hK hH d9 dX2_times_54 ?_
          refine ck_i (run_V (As := [.int (nI j), .ref (P)]) (rest := []) S hK hH (kX2_store D j P (M) rg hy nums facs P T Z pool σ ⟨d0, d5, d6, d7, d8, ⟨_, d9⟩, ⟨_, dm⟩, hP, hT, hZ, hpl⟩ hi hPM (Or.inl rfl) (pmul_ok (hpl xa xai).2 (hpl ya yai).2 e1) hj0) ceX2_store mW120 d0 rfl rfl hl.1 rfl (Nat.le_of_ble_eq_true rfl) dX2_times_57 ⟨rfl, rfl, by decide, by decide⟩ ⟨show 0 + 4 ≤ 4 by omega, show 0 + 141 ≤ 141 by omega⟩) hH (fun r57 w5 n5 H locs hp hH => ?_)
          obtain ⟨hn1, hfr, hr1, hs1⟩ := hp
          rw [hn1] at hH
          replace hF : ∀ b, D + 23 ≤ b ∧ b < D + 36 → w5 b = w b := fun b hb => (hfr b (by omega)).trans (hF b hb)
          refine W.widen (k := 4) (n := 141) (by omega) (by omega) ?_
          rw [xav, yav] at e1
          exact rt_i S hr hlk hH dX2_times_60 (⟨Or.inr rfl, hF, by rw [sTimes_some hj0 hp0 hq0 e1]; exact hr1, by rw [sTimes_some hj0 hp0 hq0 e1]; exact hs1⟩)
        · skip
          rcases hq4 with ⟨e, _⟩ | ⟨_, e1, hP⟩
          · rw [e] at c42; exact absurd c42 (by decide)
          refine lv_bipush (v := (-2)) S.1 S.2.1 dX2_times_45 (by decide) ?_
          refine W.widen (k := 4) (n := 141) (by omega) (by omega) ?_
          rw [xav, yav] at e1
          exact rt_i S hr hlk hH dX2_times_47 (⟨Or.inl rfl, hF, by rw [sTimes_none hj0 hp0 hq0 e1], by rw [sTimes_none hj0 hp0 hq0 e1]; exact ⟨_, _, _, _, P, T, Z, _, ⟨d0, d5, d6, d7, d8, ⟨_, d9⟩, ⟨_, dm⟩, hP, hT, hZ, hpl⟩, hi⟩⟩)
      · skip
        rcases hq3 with ⟨e, _⟩ | ⟨_, hb⟩
        · rw [e] at c18; exact absurd c18 (by decide)
        refine lv_iconst (v := (-1)) S.1 S.2.1 dX2_times_21 (by decide) ?_
        refine W.widen (k := 4) (n := 141) (by omega) (by omega) ?_
        exact rt_i S hr hlk hH dX2_times_22 (⟨Or.inl rfl, hF, by rw [sTimes_bad (Or.inr (Or.inr (ri_none hb)))], by rw [sTimes_bad (Or.inr (Or.inr (ri_none hb)))]; exact ⟨_, _, _, _, P, T, Z, _, ⟨d0, d5, d6, d7, d8, ⟨_, d9⟩, ⟨_, dm⟩, hP, hT, hZ, hpl⟩, hi⟩⟩)

set_option maxHeartbeats 4000000 in
set_option maxRecDepth 100000 in
theorem kX2_put {l : Launch} {G : Gx} {B : Nat} {w : Wm} {n : Nat} (D : Nat) (x a : Int32) (σ : St) (hs : DeskS G w n D σ) : Met l yX2_put (wsM yX2_put cX2_put 5 (some .int)) ({ frames := 6, cells := 4, slots := 141, locals := 146 } : Room) (Pcx G B w n [.ref (D), .int (x), .int (a)]) (Qi G B (fun r w' n' => (n' = n ∨ n' = n + 4) ∧ (∀ b, (D + 23 ≤ b ∧ b < D + 36) → w' b = w b) ∧ r = (sPut σ x a).1 ∧ DeskS G w' n' D (sPut σ x a).2)) 4 141 (FA B) := by
  refine en (by decide) (Nat.le_of_ble_eq_true rfl) ?_
  intro p ev s mm ag bl mt co S hr hlk hnm hK H hH ls hl
  have hl : lv_has ls 5 [(0, .ref (D)), (1, .int (x)), (2, .int (a))] := hl
  obtain ⟨rg, hy, nums, facs, P, T, Z, pool, hd, hi⟩ := hs
  obtain ⟨d0, d5, d6, d7, d8, ⟨bg, d9⟩, ⟨mf, dm⟩, hP, hT, hZ, hpl⟩ := hd
  obtain ⟨hbr, hj, hhc, hpc, hrg, hhy, hnu, hfa⟩ := id hi
  unfold BR at hbr
  have hF : ∀ b, D + 23 ≤ b ∧ b < D + 36 → w b = w b := fun _ _ => rfl
  refine lv_iload_n S.1 S.2.1 dX2_put_0 rfl (lv_at hl 1 rfl) ?_
  refine ck_ip (run_S (As := [.int (x)]) (rest := []) S hK hH (kX2_isRegister x) ceX2_isRegister mW101 rfl hl.1 rfl (Nat.le_of_ble_eq_true rfl) dX2_put_1 ⟨rfl, rfl, by decide, by decide⟩ ⟨show 0 + 0 ≤ 4 by omega, show 0 + 0 ≤ 141 by omega⟩) hH (fun r1 H locs hp hH => ?_)
  have hq1 : Hid _ := hp
  clear hp
  refine lv_if_eq (tgt := 14) S.1 S.2.1 dX2_put_4 (by decide) (fun c4 => ?_) (fun c4 => ?_)
  · skip
    rcases hq1 with ⟨e, _⟩ | ⟨_, hb⟩
    · rw [e] at c4; exact absurd c4 (by decide)
    refine lv_iconst (v := (-1)) S.1 S.2.1 dX2_put_14 (by decide) ?_
    refine W.widen (k := 4) (n := 141) (by omega) (by omega) ?_
    exact rt_i S hr hlk hH dX2_put_15 (⟨Or.inl rfl, hF, by rw [sPut_bad (Or.inl (ri_none hb))], by rw [sPut_bad (Or.inl (ri_none hb))]; exact ⟨_, _, _, _, P, T, Z, _, ⟨d0, d5, d6, d7, d8, ⟨_, d9⟩, ⟨_, dm⟩, hP, hT, hZ, hpl⟩, hi⟩⟩)
  · skip
    rcases hq1 with ⟨_, j, hj0, rfl⟩ | ⟨e, _⟩
    rotate_left
    · exact absurd e c4
    refine lv_iload_n S.1 S.2.1 dX2_put_7 rfl (lv_at hl 2 rfl) ?_
    refine ck_ip (run_S (As := [.int (a)]) (rest := []) S hK hH (kX2_isRegister a) ceX2_isRegister mW101 rfl hl.1 rfl (Nat.le_of_ble_eq_true rfl) dX2_put_8 ⟨rfl, rfl, by decide, by decide⟩ ⟨show 0 + 0 ≤ 4 by omega, show 0 + 0 ≤ 141 by omega⟩) hH (fun r8 H locs hp hH => ?_)
    have hq2 : Hid _ := hp
    clear hp
    refine lv_if_ne (tgt := 16) S.1 S.2.1 dX2_put_11 (by decide) (fun c11 => ?_) (fun c11 => ?_)
    · skip
      rcases hq2 with ⟨_, p1, hp0, rfl⟩ | ⟨e, _⟩
      rotate_left
      · exact absurd e c11
      obtain ⟨xa, xae, xai, xav⟩ := hrg p1 hp0
      have xain := isP_in xai
      have xal := isP_lt (by omega) xai
      obtain ⟨L, hL⟩ : ∃ L, L = (pool xa).2 := ⟨_, rfl⟩
      have hlen : L.length ≤ 60 := by rw [hL]; exact (hpl xa xai).2.2.1
      refine lv_aload_n S.1 S.2.1 dX2_put_16 rfl (lv_at hl 0 rfl) ?_
      refine gfX2_14 S hK hH d0 dX2_put_17 ?_
      refine lv_iload_n S.1 S.2.1 dX2_put_20 rfl (lv_at hl 2 rfl) ?_
      refine ald_a S hK hH d5 (by omega) (by omega) (xae) dX2_put_21 ?_
      refine lv_astore_n (lv' := [(3, .ref (xa)), (0, .ref (D)), (1, .int (nI j)), (2, .int (nI p1))]) S.1 S.2.1 dX2_put_22 rfl hl (by decide) rfl (fun ls hl => ?_)
      refine lv_aload_n S.1 S.2.1 dX2_put_23 rfl (lv_at hl 1 rfl) ?_
      refine gfX2_38 S hK hH d0 dX2_put_24 ?_
      refine ck_v (run_VN (As := []) (rest := []) S hK hH (kX0_beginTotal (D + 9) T (.ref P) (.ref Z) (.ref (D + 22)) (.int bg) d9 hT) ceX0_beginTotal mN205 d9 rfl rfl hl.1 rfl (Nat.le_of_ble_eq_true rfl) dX2_put_27 ⟨rfl, rfl, by decide, by decide⟩ ⟨show 0 + 0 ≤ 4 by omega, show 0 + 0 ≤ 141 by omega⟩) hH (fun w3 n3 H locs hp hH => ?_)
      obtain ⟨hn1, hfr, hT⟩ := hp
      rw [hn1] at hH
      replace d0 := (hfr (D) (by omega)).trans d0
      replace d5 := (hfr (D + 5) (by omega)).trans d5
      replace d6 := (hfr (D + 6) (by omega)).trans d6
      replace d7 := (hfr (D + 7) (by omega)).trans d7
      replace d8 := (hfr (D + 8) (by omega)).trans d8
      replace d9 := (hfr (D + 9) (by omega)).trans d9
      replace dm := (hfr (D + 22) (by omega)).trans dm
      replace hP := hP.kept (fun b h1 h2 => hfr b (by omega))
      replace hZ := hZ.kept (fun b h1 h2 => hfr b (by omega))
      replace hpl := hpl.kept (fun b h1 h2 => hfr b (by omega))
      replace hF : ∀ b, D + 23 ≤ b ∧ b < D + 36 → w3 b = w b := fun b hb => (hfr b (by omega)).trans (hF b hb)
      refine lv_iconst (v := nI 0) S.1 S.2.1 dX2_put_30 (by decide) ?_
      refine lv_istore (lv' := [(4, .int (nI 0)), (3, .ref (xa)), (0, .ref (D)), (1, .int (nI j)), (2, .int (nI p1))]) S.1 S.2.1 dX2_put_31 hl (by decide) rfl (fun ls hl => ?_)
      refine wlp (P := fun k_ ls H' locs' => ∃ (k : Nat) (acc : PL) (P T Z : Nat) (bg : Int32) (mf : Nat → Int32) (v : Wm), lv_has ls 5 [(0, .ref (D)), (1, .int (nI j)), (3, .ref (xa)), (4, .int (nI k))] ∧ HS G B v (n) s H' locs' ∧ v (D) = some (eO 2 [.ref (D + 5), .ref (D + 6), .int (nI (σ.2.2.1)), .ref (D + 7), .ref (D + 8), .int (nI (σ.2.2.2.2.2)), .ref (D + 9)]) ∧ v (D + 5) = some (eQ G (16) (rg)) ∧ v (D + 6) = some (eQ G (40) (hy)) ∧ v (D + 7) = some (eI G (20) (nums)) ∧ v (D + 8) = some (eI G (80) (facs)) ∧ v (D + 9) = some (eO 0 [.ref (P), .ref (T), .ref (Z), .ref (D + 22), .int (bg)]) ∧ v (D + 22) = some (eI G (60) (mf)) ∧ (PolyR G v P) ∧ (PolyAt G v T 60 acc) ∧ (PolyR G v Z) ∧ (PoolOK G v n D pool) ∧ (∀ b, D + 23 ≤ b ∧ b < D + 36 → v b = w b) ∧ (BR D P T Z) ∧ (k ≤ L.length) ∧ (okP acc) ∧ (pput σ.1 L [] = pput σ.1 (L.drop k) acc) ∧ k_ = L.length - k) ?_ (k0 := L.length - (0)) ⟨0, [], P, T, Z, _, _, w3, lv_sub hl [2, 3, 1, 0] rfl, hH, d0, d5, d6, d7, d8, d9, dm, hP, hT, hZ, hpl, hF, hbr, by omega, okP_nil, rfl, rfl⟩
      intro k33 ls H locs hP ih33
      obtain ⟨k, acc, P, T, Z, bg, mf, v, hl, hH, d0, d5, d6, d7, d8, d9, dm, hP, hT, hZ, hpl, hF, hbr, hk0, oka, hw, hk33⟩ := hP
      unfold BR at hbr
      refine lv_iload S.1 S.2.1 dX2_put_33 (lv_at hl 3 rfl) ?_
      refine lv_aload_n S.1 S.2.1 dX2_put_35 rfl (lv_at hl 2 rfl) ?_
      obtain ⟨kx, px, hx1, _⟩ := (hpl xa xai).1
      rw [← hL] at hx1
      refine gfX2_78 S hK hH hx1.ob dX2_put_36 ?_
      refine bn_ge (tgt := 71) S dX2_put_39 (by decide) (by omega) (fun c39 => ?_) (fun c39 => ?_)
      · skip
        refine lv_aload_n S.1 S.2.1 dX2_put_71 rfl (lv_at hl 0 rfl) ?_
        refine lv_iload_n S.1 S.2.1 dX2_put_72 rfl (lv_at hl 1 rfl) ?_
        refine lv_aload_n S.1 S.2.1 dX2_put_73 rfl (lv_at hl 0 rfl) ?_
        refine gfX2_38 S hK hH d0 dX2_put_74 ?_
        refine gfX2_89 S hK hH d9 dX2_put_77 ?_
        refine ck_i (run_V (As := [.int (nI j), .ref (T)]) (rest := []) S hK hH (kX2_store D j T acc rg hy nums facs P T Z pool σ ⟨d0, d5, d6, d7, d8, ⟨_, d9⟩, ⟨_, dm⟩, hP, hT.raw, hZ, hpl⟩ (hi.br hbr) hT (Or.inr rfl) oka hj0) ceX2_store mW120 d0 rfl rfl hl.1 rfl (Nat.le_of_ble_eq_true rfl) dX2_put_80 ⟨rfl, rfl, by decide, by decide⟩ ⟨show 0 + 4 ≤ 4 by omega, show 0 + 141 ≤ 141 by omega⟩) hH (fun r80 w4 n4 H locs hp hH => ?_)
        obtain ⟨hn1, hfr, hr1, hs1⟩ := hp
        rw [hn1] at hH
        replace hF : ∀ b, D + 23 ≤ b ∧ b < D + 36 → w4 b = w b := fun b hb => (hfr b (by omega)).trans (hF b hb)
        refine W.widen (k := 4) (n := 141) (by omega) (by omega) ?_
        have e9 := hw.trans (pput_end c39)
        rw [hL, xav] at e9
        exact rt_i S hr hlk hH dX2_put_83 (⟨Or.inr rfl, hF, by rw [sPut_some hj0 hp0 e9]; exact hr1, by rw [sPut_some hj0 hp0 e9]; exact hs1⟩)
      · skip
        refine lv_aload_n S.1 S.2.1 dX2_put_42 rfl (lv_at hl 0 rfl) ?_
        refine lv_aload_n S.1 S.2.1 dX2_put_43 rfl (lv_at hl 2 rfl) ?_
        refine lv_iload S.1 S.2.1 dX2_put_44 (lv_at hl 3 rfl) ?_
        refine ck_i (run_V (As := [.ref (xa), .int (nI k)]) (rest := []) S hK hH (kX2_workTerm D xa k rg hy nums facs P T Z pool σ ⟨d0, d5, d6, d7, d8, ⟨_, d9⟩, ⟨_, dm⟩, hP, hT.raw, hZ, hpl⟩ (hi.br hbr) xai (by rw [← hL]; exact c39)) ceX2_workTerm mW209 d0 rfl rfl hl.1 rfl (Nat.le_of_ble_eq_true rfl) dX2_put_46 ⟨rfl, rfl, by decide, by decide⟩ ⟨show 0 + 0 ≤ 4 by omega, show 0 + 0 ≤ 141 by omega⟩) hH (fun r46 w5 n5 H locs hp hH => ?_)
        obtain ⟨hn1, hfr, P, Z, hbr, hd, hq4⟩ := hp
        rw [hn1] at hH
        rw [← hL] at hq4
        replace hq4 : Hid _ := hq4
        replace hT := hT.kept (fun b h1 h2 => hfr b (Or.inr ⟨h1, h2⟩))
        obtain ⟨d0, d5, d6, d7, d8, ⟨bg, d9⟩, ⟨mf, dm⟩, hP, _, hZ, hpl⟩ := hd
        replace hF : ∀ b, (D + 23 ≤ b ∧ b < D + 36) → w5 b = w b := fun b hb => (hfr b (Or.inl hb)).trans (hF b hb)
        unfold BR at hbr
        refine lv_if_eq (tgt := 62) S.1 S.2.1 dX2_put_49 (by decide) (fun c49 => ?_) (fun c49 => ?_)
        · skip
          rcases hq4 with ⟨e, _⟩ | ⟨_, e1⟩
          · rw [e] at c49; exact absurd c49 (by decide)
          refine lv_bipush (v := (-2)) S.1 S.2.1 dX2_put_62 (by decide) ?_
          refine W.widen (k := 4) (n := 141) (by omega) (by omega) ?_
          have e9 := hw.trans (pput_none1 c39 e1)
          rw [hL, xav] at e9
          exact rt_i S hr hlk hH dX2_put_64 (⟨Or.inl rfl, hF, by rw [sPut_none hj0 hp0 e9], by rw [sPut_none hj0 hp0 e9]; exact ⟨_, _, _, _, P, T, Z, _, ⟨d0, d5, d6, d7, d8, ⟨_, d9⟩, ⟨_, dm⟩, hP, hT.raw, hZ, hpl⟩, hi.br hbr⟩⟩)
        · skip
          rcases hq4 with ⟨_, M, e1, okm, hPM⟩ | ⟨e, _⟩
          rotate_left
          · exact absurd e c49
          refine lv_aload_n S.1 S.2.1 dX2_put_52 rfl (lv_at hl 0 rfl) ?_
          refine gfX2_38 S hK hH d0 dX2_put_53 ?_
          refine ck_i (run_VN (As := []) (rest := []) S hK hH (kX0_addProduct (D + 9) (D + 22) P T Z acc M bg d9 hT hPM hZ oka okm (by omega) (by omega) (by omega) (by omega) (by omega)) ceX0_addProduct mN230 d9 rfl rfl hl.1 rfl (Nat.le_of_ble_eq_true rfl) dX2_put_56 ⟨rfl, rfl, by decide, by decide⟩ ⟨show 0 + 0 ≤ 4 by omega, show 0 + 0 ≤ 141 by omega⟩) hH (fun r56 w6 n6 H locs hp hH => ?_)
          obtain ⟨hn1, hfr, ⟨⟨bg, d9⟩, hq5⟩⟩ := hp
          rw [hn1] at hH
          replace hq5 : Hid _ := hq5
          have hTr := hT.raw
          replace hTr := hTr.kept (fun b h1 h2 => hfr b (by omega))
          replace d0 := (hfr (D) (by omega)).trans d0
          replace d5 := (hfr (D + 5) (by omega)).trans d5
          replace d6 := (hfr (D + 6) (by omega)).trans d6
          replace d7 := (hfr (D + 7) (by omega)).trans d7
          replace d8 := (hfr (D + 8) (by omega)).trans d8
          replace dm := (hfr (D + 22) (by omega)).trans dm
          replace hP := hP.kept (fun b h1 h2 => hfr b (by omega))
          replace hpl := hpl.kept (fun b h1 h2 => hfr b (by omega))
          replace hPM := hPM.kept (fun b h1 h2 => hfr b (by omega))
          replace hF : ∀ b, D + 23 ≤ b ∧ b < D + 36 → w6 b = w b := fun b hb => (hfr b (by omega)).trans (hF b hb)
          refine lv_if_ne (tgt := 65) S.1 S.2.1 dX2_put_59 (by decide) (fun c59 => ?_) (fun c59 => ?_)
          · skip
            rcases hq5 with ⟨_, A2, e2, hTM⟩ | ⟨e, _⟩
            rotate_left
            · exact absurd e c59
            have ok2 := padd_ok oka okm e2
            refine lv_iinc (v := nI (k + 1)) (lv' := [(4, .int (nI (k + 1))), (0, .ref (D)), (1, .int (nI j)), (3, .ref (xa))]) S.1 S.2.1 dX2_put_65 hl (k := 3) rfl (nI_inc _ 1) (by decide) rfl (fun ls hl => ?_)
            refine lv_goto (tgt := 33) S.1 S.2.1 dX2_put_68 (by decide) ?_
            exact ih33 _ _ _ _ (by omega) ⟨k + 1, A2, P, Z, T, _, _, w6, lv_sub hl [1, 2, 3, 0] rfl, hH, d0, d5, d6, d7, d8, d9, dm, hPM.raw, hTM, hTr, hpl, hF, br_sx hbr, by omega, ok2, hw.trans (pput_some c39 e1 e2), rfl⟩
          · skip
            rcases hq5 with ⟨e, _⟩ | ⟨_, e2, hTM⟩
            · rw [e] at c59; exact absurd c59 (by decide)
            refine lv_bipush (v := (-2)) S.1 S.2.1 dX2_put_62 (by decide) ?_
            refine W.widen (k := 4) (n := 141) (by omega) (by omega) ?_
            have e9 := hw.trans (pput_none2 c39 e1 e2)
            rw [hL, xav] at e9
            exact rt_i S hr hlk hH dX2_put_64 (⟨Or.inl rfl, hF, by rw [sPut_none hj0 hp0 e9], by rw [sPut_none hj0 hp0 e9]; exact ⟨_, _, _, _, P, Z, T, _, ⟨d0, d5, d6, d7, d8, ⟨_, d9⟩, ⟨_, dm⟩, hPM.raw, hTM, hTr, hpl⟩, hi.br (br_sx hbr)⟩⟩)
    · skip
      rcases hq2 with ⟨e, _⟩ | ⟨_, hb⟩
      · rw [e] at c11; exact absurd c11 (by decide)
      refine lv_iconst (v := (-1)) S.1 S.2.1 dX2_put_14 (by decide) ?_
      refine W.widen (k := 4) (n := 141) (by omega) (by omega) ?_
      exact rt_i S hr hlk hH dX2_put_15 (⟨Or.inl rfl, hF, by rw [sPut_bad (Or.inr (ri_none hb))], by rw [sPut_bad (Or.inr (ri_none hb))]; exact ⟨_, _, _, _, P, T, Z, _, ⟨d0, d5, d6, d7, d8, ⟨_, d9⟩, ⟨_, dm⟩, hP, hT, hZ, hpl⟩, hi⟩⟩)

set_option maxHeartbeats 4000000 in
set_option maxRecDepth 100000 in
theorem kX2_size {l : Launch} {G : Gx} {B : Nat} {w : Wm} {n : Nat} (D : Nat) (x : Int32) (σ : St) (hs : DeskS G w n D σ) : Met l yX2_size (wsM yX2_size cX2_size 2 (some .int)) ({ frames := 1, cells := 0, slots := 0, locals := 20 } : Room) (Pcx G B w n [.ref (D), .int (x)]) (Qi G B (fun r w' n' => w' = w ∧ n' = n ∧ r = sSize σ x)) 0 0 (FA B) := by
  refine en (by decide) (Nat.le_of_ble_eq_true rfl) ?_
  intro p ev s mm ag bl mt co S hr hlk hnm hK H hH ls hl
  have hl : lv_has ls 2 [(0, .ref (D)), (1, .int (x))] := hl
  obtain ⟨rg, hy, nums, facs, P, T, Z, pool, hd, hi⟩ := hs
  obtain ⟨d0, d5, d6, d7, d8, ⟨bg, d9⟩, ⟨mf, dm⟩, hP, hT, hZ, hpl⟩ := hd
  obtain ⟨hbr, hj, hhc, hpc, hrg, hhy, hnu, hfa⟩ := id hi
  unfold BR at hbr
  refine lv_iload_n S.1 S.2.1 dX2_size_0 rfl (lv_at hl 1 rfl) ?_
  refine ck_ip (run_S (As := [.int (x)]) (rest := []) S hK hH (kX2_isRegister x) ceX2_isRegister mW101 rfl hl.1 rfl (Nat.le_of_ble_eq_true rfl) dX2_size_1 ⟨rfl, rfl, by decide, by decide⟩ ⟨show 0 + 0 ≤ 0 by omega, show 0 + 0 ≤ 0 by omega⟩) hH (fun r1 H locs hp hH => ?_)
  have hq1 : Hid _ := hp
  clear hp
  refine lv_if_eq (tgt := 19) S.1 S.2.1 dX2_size_4 (by decide) (fun c4 => ?_) (fun c4 => ?_)
  · skip
    rcases hq1 with ⟨e, _⟩ | ⟨_, hb⟩
    · rw [e] at c4; exact absurd c4 (by decide)
    refine lv_iconst (v := (-1)) S.1 S.2.1 dX2_size_19 (by decide) ?_
    exact rt_i S hr hlk hH dX2_size_20 (⟨rfl, rfl, by rw [sSize, ri_none hb]⟩)
  · skip
    rcases hq1 with ⟨_, j, hj0, rfl⟩ | ⟨e, _⟩
    rotate_left
    · exact absurd e c4
    obtain ⟨ra, rae, rai, rav⟩ := hrg j hj0
    have rain := isP_in rai
    have ral := isP_lt (by omega) rai
    obtain ⟨kra, pra, hra, _⟩ := (hpl ra rai).1
    rw [rav] at hra
    have okra : okP (σ.1 j) := by rw [← rav]; exact (hpl ra rai).2
    refine lv_aload_n S.1 S.2.1 dX2_size_7 rfl (lv_at hl 0 rfl) ?_
    refine gfX2_14 S hK hH d0 dX2_size_8 ?_
    refine lv_iload_n S.1 S.2.1 dX2_size_11 rfl (lv_at hl 1 rfl) ?_
    refine ald_a S hK hH d5 (by omega) (by omega) (rae) dX2_size_12 ?_
    refine gfX2_78 S hK hH hra.ob dX2_size_13 ?_
    refine lv_goto (tgt := 20) S.1 S.2.1 dX2_size_16 (by decide) ?_
    exact rt_i S hr hlk hH dX2_size_20 (⟨rfl, rfl, by rw [sSize, ri_some hj0]⟩)

set_option maxHeartbeats 4000000 in
set_option maxRecDepth 100000 in
theorem kX2_term {l : Launch} {G : Gx} {B : Nat} {w : Wm} {n : Nat} (D : Nat) (x k wh : Int32) (σ : St) (hs : DeskS G w n D σ) : Met l yX2_term (wsM yX2_term cX2_term 4 (some .int)) ({ frames := 2, cells := 0, slots := 0, locals := 46 } : Room) (Pcx G B w n [.ref (D), .int (x), .int (k), .int (wh)]) (Qi G B (fun r w' n' => w' = w ∧ n' = n ∧ r = sTerm σ x k wh)) 0 0 (FA B) := by
  refine en (by decide) (Nat.le_of_ble_eq_true rfl) ?_
  intro p ev s mm ag bl mt co S hr hlk hnm hK H hH ls hl
  have hl : lv_has ls 4 [(0, .ref (D)), (1, .int (x)), (2, .int (k)), (3, .int (wh))] := hl
  obtain ⟨rg, hy, nums, facs, P, T, Z, pool, hd, hi⟩ := hs
  obtain ⟨d0, d5, d6, d7, d8, ⟨bg, d9⟩, ⟨mf, dm⟩, hP, hT, hZ, hpl⟩ := hd
  obtain ⟨hbr, hj, hhc, hpc, hrg, hhy, hnu, hfa⟩ := id hi
  unfold BR at hbr
  refine lv_iload_n S.1 S.2.1 dX2_term_0 rfl (lv_at hl 1 rfl) ?_
  refine ck_ip (run_S (As := [.int (x)]) (rest := []) S hK hH (kX2_isRegister x) ceX2_isRegister mW101 rfl hl.1 rfl (Nat.le_of_ble_eq_true rfl) dX2_term_1 ⟨rfl, rfl, by decide, by decide⟩ ⟨show 0 + 0 ≤ 0 by omega, show 0 + 0 ≤ 0 by omega⟩) hH (fun r1 H locs hp hH => ?_)
  have hq1 : Hid _ := hp
  clear hp
  refine lv_if_ne (tgt := 9) S.1 S.2.1 dX2_term_4 (by decide) (fun c4 => ?_) (fun c4 => ?_)
  · skip
    rcases hq1 with ⟨_, j, hj0, rfl⟩ | ⟨e, _⟩
    rotate_left
    · exact absurd e c4
    obtain ⟨ra, rae, rai, rav⟩ := hrg j hj0
    have rain := isP_in rai
    have ral := isP_lt (by omega) rai
    obtain ⟨kra, pra, hra, _⟩ := (hpl ra rai).1
    rw [rav] at hra
    have okra : okP (σ.1 j) := by rw [← rav]; exact (hpl ra rai).2
    refine lv_iload_n S.1 S.2.1 dX2_term_9 rfl (lv_at hl 3 rfl) ?_
    refine lv_iconst (v := (-1)) S.1 S.2.1 dX2_term_10 (by decide) ?_
    refine lv_icmp_ne (tgt := 25) S.1 S.2.1 dX2_term_11 (by decide) (fun c11 => ?_) (fun c11 => ?_)
    · skip
      refine lv_aload_n S.1 S.2.1 dX2_term_25 rfl (lv_at hl 0 rfl) ?_
      refine gfX2_14 S hK hH d0 dX2_term_26 ?_
      refine lv_iload_n S.1 S.2.1 dX2_term_29 rfl (lv_at hl 1 rfl) ?_
      refine ald_a S hK hH d5 (by omega) (by omega) (rae) dX2_term_30 ?_
      refine lv_iload_n S.1 S.2.1 dX2_term_31 rfl (lv_at hl 2 rfl) ?_
      refine lv_iload_n S.1 S.2.1 dX2_term_32 rfl (lv_at hl 3 rfl) ?_
      refine ck_ip (run_VN (As := [.int (k), .int (wh)]) (rest := []) S hK hH (kX1_powerAt ra (pool ra).1 (σ.1 j) kra pra k wh hra (fun i hi => (okra.ok i hi).1)) ceX1_powerAt mN221 hra.ob rfl rfl hl.1 rfl (Nat.le_of_ble_eq_true rfl) dX2_term_33 ⟨rfl, rfl, by decide, by decide⟩ ⟨show 0 + 0 ≤ 0 by omega, show 0 + 0 ≤ 0 by omega⟩) hH (fun r33 H locs hp hH => ?_)
      have hq2 : Hid _ := hp
      clear hp
      exact rt_i S hr hlk hH dX2_term_36 (⟨rfl, rfl, sTerm_p hj0 okra.2.1 c11 hq2⟩)
    · skip
      refine lv_aload_n S.1 S.2.1 dX2_term_14 rfl (lv_at hl 0 rfl) ?_
      refine gfX2_14 S hK hH d0 dX2_term_15 ?_
      refine lv_iload_n S.1 S.2.1 dX2_term_18 rfl (lv_at hl 1 rfl) ?_
      refine ald_a S hK hH d5 (by omega) (by omega) (rae) dX2_term_19 ?_
      refine lv_iload_n S.1 S.2.1 dX2_term_20 rfl (lv_at hl 2 rfl) ?_
      refine ck_ip (run_VN (As := [.int (k)]) (rest := []) S hK hH (kX1_coefficientAt ra (pool ra).1 (σ.1 j) kra pra k hra) ceX1_coefficientAt mN213 hra.ob rfl rfl hl.1 rfl (Nat.le_of_ble_eq_true rfl) dX2_term_21 ⟨rfl, rfl, by decide, by decide⟩ ⟨show 0 + 0 ≤ 0 by omega, show 0 + 0 ≤ 0 by omega⟩) hH (fun r21 H locs hp hH => ?_)
      have hq2 : Hid _ := hp
      clear hp
      exact rt_i S hr hlk hH dX2_term_24 (⟨rfl, rfl, sTerm_c hj0 okra.2.1 c11 hq2⟩)
  · skip
    rcases hq1 with ⟨e, _⟩ | ⟨_, hb⟩
    · rw [e] at c4; exact absurd c4 (by decide)
    refine lv_iconst (v := nI 0) S.1 S.2.1 dX2_term_7 (by decide) ?_
    exact rt_i S hr hlk hH dX2_term_8 (⟨rfl, rfl, by rw [sTerm, ri_none hb]; rfl⟩)

set_option maxHeartbeats 4000000 in
set_option maxRecDepth 100000 in
theorem kX2_same {l : Launch} {G : Gx} {B : Nat} {w : Wm} {n : Nat} (D : Nat) (x y : Int32) (σ : St) (hs : DeskS G w n D σ) : Met l yX2_same (wsM yX2_same cX2_same 3 (some .int)) ({ frames := 1, cells := 0, slots := 0, locals := 22 } : Room) (Pcx G B w n [.ref (D), .int (x), .int (y)]) (Qi G B (fun r w' n' => w' = w ∧ n' = n ∧ r = sSame σ x y)) 0 0 (FA B) := by
  refine en (by decide) (Nat.le_of_ble_eq_true rfl) ?_
  intro p ev s mm ag bl mt co S hr hlk hnm hK H hH ls hl
  have hl : lv_has ls 3 [(0, .ref (D)), (1, .int (x)), (2, .int (y))] := hl
  obtain ⟨rg, hy, nums, facs, P, T, Z, pool, hd, hi⟩ := hs
  obtain ⟨d0, d5, d6, d7, d8, ⟨bg, d9⟩, ⟨mf, dm⟩, hP, hT, hZ, hpl⟩ := hd
  obtain ⟨hbr, hj, hhc, hpc, hrg, hhy, hnu, hfa⟩ := id hi
  unfold BR at hbr
  refine lv_iload_n S.1 S.2.1 dX2_same_0 rfl (lv_at hl 1 rfl) ?_
  refine ck_ip (run_S (As := [.int (x)]) (rest := []) S hK hH (kX2_isRegister x) ceX2_isRegister mW101 rfl hl.1 rfl (Nat.le_of_ble_eq_true rfl) dX2_same_1 ⟨rfl, rfl, by decide, by decide⟩ ⟨show 0 + 0 ≤ 0 by omega, show 0 + 0 ≤ 0 by omega⟩) hH (fun r1 H locs hp hH => ?_)
  have hq1 : Hid _ := hp
  clear hp
  refine lv_if_eq (tgt := 14) S.1 S.2.1 dX2_same_4 (by decide) (fun c4 => ?_) (fun c4 => ?_)
  · skip
    rcases hq1 with ⟨e, _⟩ | ⟨_, hb⟩
    · rw [e] at c4; exact absurd c4 (by decide)
    refine lv_iconst (v := (-1)) S.1 S.2.1 dX2_same_14 (by decide) ?_
    exact rt_i S hr hlk hH dX2_same_15 (⟨rfl, rfl, by rw [sSame_bad (Or.inl (ri_none hb))]⟩)
  · skip
    rcases hq1 with ⟨_, j, hj0, rfl⟩ | ⟨e, _⟩
    rotate_left
    · exact absurd e c4
    refine lv_iload_n S.1 S.2.1 dX2_same_7 rfl (lv_at hl 2 rfl) ?_
    refine ck_ip (run_S (As := [.int (y)]) (rest := []) S hK hH (kX2_isRegister y) ceX2_isRegister mW101 rfl hl.1 rfl (Nat.le_of_ble_eq_true rfl) dX2_same_8 ⟨rfl, rfl, by decide, by decide⟩ ⟨show 0 + 0 ≤ 0 by omega, show 0 + 0 ≤ 0 by omega⟩) hH (fun r8 H locs hp hH => ?_)
    have hq2 : Hid _ := hp
    clear hp
    refine lv_if_ne (tgt := 16) S.1 S.2.1 dX2_same_11 (by decide) (fun c11 => ?_) (fun c11 => ?_)
    · skip
      rcases hq2 with ⟨_, q1, hq0, rfl⟩ | ⟨e, _⟩
      rotate_left
      · exact absurd e c11
      obtain ⟨ra, rae, rai, rav⟩ := hrg j hj0
      have rain := isP_in rai
      have ral := isP_lt (by omega) rai
      obtain ⟨kra, pra, hra, _⟩ := (hpl ra rai).1
      rw [rav] at hra
      have okra : okP (σ.1 j) := by rw [← rav]; exact (hpl ra rai).2
      obtain ⟨rb, rbe, rbi, rbv⟩ := hrg q1 hq0
      have rbin := isP_in rbi
      have rbl := isP_lt (by omega) rbi
      obtain ⟨krb, prb, hrb, _⟩ := (hpl rb rbi).1
      rw [rbv] at hrb
      have okrb : okP (σ.1 q1) := by rw [← rbv]; exact (hpl rb rbi).2
      refine lv_aload_n S.1 S.2.1 dX2_same_16 rfl (lv_at hl 0 rfl) ?_
      refine gfX2_14 S hK hH d0 dX2_same_17 ?_
      refine lv_iload_n S.1 S.2.1 dX2_same_20 rfl (lv_at hl 1 rfl) ?_
      refine ald_a S hK hH d5 (by omega) (by omega) (rae) dX2_same_21 ?_
      refine lv_aload_n S.1 S.2.1 dX2_same_22 rfl (lv_at hl 0 rfl) ?_
      refine gfX2_14 S hK hH d0 dX2_same_23 ?_
      refine lv_iload_n S.1 S.2.1 dX2_same_26 rfl (lv_at hl 2 rfl) ?_
      refine ald_a S hK hH d5 (by omega) (by omega) (rbe) dX2_same_27 ?_
      refine ck_ip (run_VN (As := [.ref (rb)]) (rest := []) S hK hH (kX1_matches ra (pool ra).1 (σ.1 j) kra pra rb (pool rb).1 (σ.1 q1) krb prb hra hrb okra.ok.B okrb.ok.B) ceX1_matches mN246 hra.ob rfl rfl hl.1 rfl (Nat.le_of_ble_eq_true rfl) dX2_same_28 ⟨rfl, rfl, by decide, by decide⟩ ⟨show 0 + 0 ≤ 0 by omega, show 0 + 0 ≤ 0 by omega⟩) hH (fun r28 H locs hp hH => ?_)
      have hq3 : Hid _ := hp
      clear hp
      refine lv_if_eq (tgt := 38) S.1 S.2.1 dX2_same_31 (by decide) (fun c31 => ?_) (fun c31 => ?_)
      · skip
        rcases hq3 with ⟨e, _⟩ | ⟨_, he⟩
        · rw [e] at c31; exact absurd c31 (by decide)
        refine lv_iconst (v := nI 0) S.1 S.2.1 dX2_same_38 (by decide) ?_
        exact rt_i S hr hlk hH dX2_same_39 (⟨rfl, rfl, by rw [sSame_ok hj0 hq0, if_neg he]; rfl⟩)
      · skip
        rcases hq3 with ⟨_, he⟩ | ⟨e, _⟩
        rotate_left
        · exact absurd e c31
        refine lv_iconst (v := nI 1) S.1 S.2.1 dX2_same_34 (by decide) ?_
        refine lv_goto (tgt := 39) S.1 S.2.1 dX2_same_35 (by decide) ?_
        exact rt_i S hr hlk hH dX2_same_39 (⟨rfl, rfl, by rw [sSame_ok hj0 hq0, if_pos he]; rfl⟩)
    · skip
      rcases hq2 with ⟨e, _⟩ | ⟨_, hb⟩
      · rw [e] at c11; exact absurd c11 (by decide)
      refine lv_iconst (v := (-1)) S.1 S.2.1 dX2_same_14 (by decide) ?_
      exact rt_i S hr hlk hH dX2_same_15 (⟨rfl, rfl, by rw [sSame_bad (Or.inr (ri_none hb))]⟩)

set_option maxHeartbeats 4000000 in
set_option maxRecDepth 100000 in
theorem kX2_value {l : Launch} {G : Gx} {B : Nat} {w : Wm} {n : Nat} (D : Nat) (x v : Int32) (σ : St) (hs : DeskS G w n D σ) : Met l yX2_value (wsM yX2_value cX2_value 3 (some .long)) ({ frames := 1, cells := 0, slots := 0, locals := 28 } : Room) (Pcx G B w n [.ref (D), .int (x), .int (v)]) (Ql G B (fun r w' n' => w' = w ∧ n' = n ∧ r = sValue σ x v)) 0 0 (FA B) := by
  refine en (by decide) (Nat.le_of_ble_eq_true rfl) ?_
  intro p ev s mm ag bl mt co S hr hlk hnm hK H hH ls hl
  have hl : lv_has ls 3 [(0, .ref (D)), (1, .int (x)), (2, .int (v))] := hl
  obtain ⟨rg, hy, nums, facs, P, T, Z, pool, hd, hi⟩ := hs
  obtain ⟨d0, d5, d6, d7, d8, ⟨bg, d9⟩, ⟨mf, dm⟩, hP, hT, hZ, hpl⟩ := hd
  obtain ⟨hbr, hj, hhc, hpc, hrg, hhy, hnu, hfa⟩ := id hi
  unfold BR at hbr
  refine lv_iload_n S.1 S.2.1 dX2_value_0 rfl (lv_at hl 1 rfl) ?_
  refine ck_ip (run_S (As := [.int (x)]) (rest := []) S hK hH (kX2_isRegister x) ceX2_isRegister mW101 rfl hl.1 rfl (Nat.le_of_ble_eq_true rfl) dX2_value_1 ⟨rfl, rfl, by decide, by decide⟩ ⟨show 0 + 0 ≤ 0 by omega, show 0 + 0 ≤ 0 by omega⟩) hH (fun r1 H locs hp hH => ?_)
  have hq1 : Hid _ := hp
  clear hp
  refine lv_if_eq (tgt := 20) S.1 S.2.1 dX2_value_4 (by decide) (fun c4 => ?_) (fun c4 => ?_)
  · skip
    rcases hq1 with ⟨e, _⟩ | ⟨_, hb⟩
    · rw [e] at c4; exact absurd c4 (by decide)
    refine lv_lconst (v := lI 0) S.1 S.2.1 dX2_value_20 (by decide) ?_
    exact rt_l S hr hlk hH dX2_value_21 (⟨rfl, rfl, by rw [sValue, ri_none hb]; rfl⟩)
  · skip
    rcases hq1 with ⟨_, j, hj0, rfl⟩ | ⟨e, _⟩
    rotate_left
    · exact absurd e c4
    obtain ⟨ra, rae, rai, rav⟩ := hrg j hj0
    have rain := isP_in rai
    have ral := isP_lt (by omega) rai
    obtain ⟨kra, pra, hra, _⟩ := (hpl ra rai).1
    rw [rav] at hra
    have okra : okP (σ.1 j) := by rw [← rav]; exact (hpl ra rai).2
    refine lv_aload_n S.1 S.2.1 dX2_value_7 rfl (lv_at hl 0 rfl) ?_
    refine gfX2_14 S hK hH d0 dX2_value_8 ?_
    refine lv_iload_n S.1 S.2.1 dX2_value_11 rfl (lv_at hl 1 rfl) ?_
    refine ald_a S hK hH d5 (by omega) (by omega) (rae) dX2_value_12 ?_
    refine lv_iload_n S.1 S.2.1 dX2_value_13 rfl (lv_at hl 2 rfl) ?_
    refine ck_lp (run_VN (As := [.int (v)]) (rest := []) S hK hH (kX1_valueWith ra (pool ra).1 (σ.1 j) kra pra v hra okra.ok.B) ceX1_valueWith mN254 hra.ob rfl rfl hl.1 rfl (Nat.le_of_ble_eq_true rfl) dX2_value_14 ⟨rfl, rfl, by decide, by decide⟩ ⟨show 0 + 0 ≤ 0 by omega, show 0 + 0 ≤ 0 by omega⟩) hH (fun r14 H locs hp hH => ?_)
    have hq2 : Hid _ := hp
    clear hp
    refine lv_goto (tgt := 21) S.1 S.2.1 dX2_value_17 (by decide) ?_
    exact rt_l S hr hlk hH dX2_value_21 (⟨rfl, rfl, by rw [sValue, ri_some hj0]; exact hq2⟩)

set_option maxHeartbeats 4000000 in
set_option maxRecDepth 100000 in
theorem kX2_count {l : Launch} {G : Gx} {B : Nat} {w : Wm} {n : Nat} (D : Nat) (x : Int32) (σ : St) (hs : DeskS G w n D σ) : Met l yX2_count (wsM yX2_count cX2_count 2 (some .int)) ({ frames := 0, cells := 0, slots := 0, locals := 0 } : Room) (Pcx G B w n [.ref (D), .int (x)]) (Qi G B (fun r w' n' => w' = w ∧ n' = n ∧ r = sCount σ x)) 0 0 (FA B) := by
  refine en (by decide) (Nat.le_of_ble_eq_true rfl) ?_
  intro p ev s mm ag bl mt co S hr hlk hnm hK H hH ls hl
  have hl : lv_has ls 2 [(0, .ref (D)), (1, .int (x))] := hl
  obtain ⟨rg, hy, nums, facs, P, T, Z, pool, hd, hi⟩ := hs
  obtain ⟨d0, d5, d6, d7, d8, ⟨bg, d9⟩, ⟨mf, dm⟩, hP, hT, hZ, hpl⟩ := hd
  obtain ⟨hbr, hj, hhc, hpc, hrg, hhy, hnu, hfa⟩ := id hi
  unfold BR at hbr
  refine lv_iload_n S.1 S.2.1 dX2_count_0 rfl (lv_at hl 1 rfl) ?_
  refine lv_if_ne (tgt := 9) S.1 S.2.1 dX2_count_1 (by decide) (fun c1 => ?_) (fun c1 => ?_)
  · skip
    refine lv_iload_n S.1 S.2.1 dX2_count_9 rfl (lv_at hl 1 rfl) ?_
    refine lv_iconst (v := nI 1) S.1 S.2.1 dX2_count_10 (by decide) ?_
    refine tpi (x' := (1 : Int32)) (by decide) ?_
    refine lv_icmp_ne (tgt := 21) S.1 S.2.1 dX2_count_11 (by decide) (fun c11 => ?_) (fun c11 => ?_)
    · skip
      refine lv_iconst (v := (-1)) S.1 S.2.1 dX2_count_21 (by decide) ?_
      exact rt_i S hr hlk hH dX2_count_22 (⟨rfl, rfl, by rw [sCount, if_neg c1, if_neg c11]⟩)
    · skip
      refine lv_aload_n S.1 S.2.1 dX2_count_14 rfl (lv_at hl 0 rfl) ?_
      refine gfX2_32 S hK hH d0 dX2_count_15 ?_
      refine lv_goto (tgt := 22) S.1 S.2.1 dX2_count_18 (by decide) ?_
      exact rt_i S hr hlk hH dX2_count_22 (⟨rfl, rfl, by rw [sCount, if_neg c1, if_pos c11]⟩)
  · skip
    refine lv_aload_n S.1 S.2.1 dX2_count_4 rfl (lv_at hl 0 rfl) ?_
    refine gfX2_21 S hK hH d0 dX2_count_5 ?_
    exact rt_i S hr hlk hH dX2_count_8 (⟨rfl, rfl, by rw [sCount, if_pos c1]⟩)

