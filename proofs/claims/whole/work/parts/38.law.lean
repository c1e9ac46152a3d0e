set_option maxHeartbeats 8000000 in
set_option maxRecDepth 100000 in
/-- THE LAW, from its entry -/
theorem whole_start {p : Program} {e : Env} {s : State} {m : MethodId} {below : List Frame} {meth : Method} {c : Code} (l : Launch) {b L : Nat} {xs : Nat → Int32} (hL : L ≤ 3072) (C0 : lw_At p s m meth c b L xs) : W p l e room_1 s m #[Value.ref b] below meth c s.heap [] 0 0 (lw_Z below #[Value.ref b] s) (entryFrame m ([Value.ref b] : List Value).toArray 4) := by
  obtain ⟨hx, hb, hr, hml, hown, hts, hX, hbl, hlocks, hgv⟩ := id C0
  obtain ⟨G, hK⟩ := KG_start hts
  have S : CallFix p m c cL_law 4 s #[Value.ref b] BW RL := ⟨hx, hb, hml, hown, fun w h => hts w (BW_in w h)⟩
  have hbA : ¬ FA s.heap.size b := Nat.not_le.mpr hbl
  have hH : HS G s.heap.size (fun _ => none) s.heap.size s s.heap [] := ⟨⟨rfl, Nat.le_refl _, fun a e h => by cases h⟩, va_S.rf, Nat.le_refl _⟩
  have hl := lv_entry ([.ref b]) (n := 4) (Nat.le_of_ble_eq_true rfl)
  rw [lg_entry_eq]
  generalize (lg_sl ([.ref b]) ++ List.replicate (4 - (lg_sl ([.ref b])).length) Slot.unset).toArray = ls at hl ⊢
  have hl : lv_has ls 4 [(0, .ref (b))] := hl

  refine nwo (ci := 2) (fs := [.null, .null, .int (0), .null, .null, .int (0), .null]) S hK hH rfl fwX2 tyX2 tyX2_ok mW6 mW7 mW1 (fun j hj => by rcases (show j = 0 ∨ j = 1 ∨ j = 2 ∨ j = 3 ∨ j = 4 ∨ j = 5 ∨ j = 6 by omega) with rfl | rfl | rfl | rfl | rfl | rfl | rfl <;> rfl) (show 0 + 1 ≤ 600000 by omega) (show 0 + 7 ≤ 7302250 by omega) dL_law_0 (fun w1 H hnD fr hH => ?_)
  refine lv_dup S.1 S.2.1 dL_law_3 rfl ?_
  refine ck_v (run_I (As := []) (rest := [.ref (s.heap.size)]) S hK hH (kX2_init (s.heap.size) hnD rfl) ceX2_init mW8 rfl hl.1 rfl (Nat.le_of_ble_eq_true rfl) dL_law_4 ⟨rfl, rfl, by decide, by decide⟩ ⟨show (0 + 1) + 22 ≤ 600000 by omega, show (0 + 7) + 785 ≤ 7302250 by omega⟩) hH (fun w3 n3 H locs hp hH => ?_)
  obtain ⟨hn1, hfr, hdn⟩ := hp
  rw [hn1] at hH
  refine lv_astore_n (lv' := [(1, .ref (s.heap.size)), (0, .ref (b))]) S.1 S.2.1 dL_law_7 rfl hl (by decide) rfl (fun ls hl => ?_)
  refine nwo (ci := 3) (fs := [.null, .null, .null, .null, .int (0), .int (0), .null, .null, .null, .null, .null, .int (0), .int (0), .null, .null, .null]) S hK hH rfl fwX3 tyX3 tyX3_ok mW291 mW292 mW5 (fun j hj => by rcases (show j = 0 ∨ j = 1 ∨ j = 2 ∨ j = 3 ∨ j = 4 ∨ j = 5 ∨ j = 6 ∨ j = 7 ∨ j = 8 ∨ j = 9 ∨ j = 10 ∨ j = 11 ∨ j = 12 ∨ j = 13 ∨ j = 14 ∨ j = 15 by omega) with rfl | rfl | rfl | rfl | rfl | rfl | rfl | rfl | rfl | rfl | rfl | rfl | rfl | rfl | rfl | rfl <;> rfl) (show ((0 + 1) + 22) + 1 ≤ 600000 by omega) (show ((0 + 7) + 785) + 16 ≤ 7302250 by omega) dL_law_8 (fun w4 H hnM fr hH => ?_)
  replace hdn := hdn.kept (fun b hb => fr b (by omega))
  refine lv_dup S.1 S.2.1 dL_law_11 rfl ?_
  refine ck_v (run_I (As := []) (rest := [.ref (s.heap.size + 23)]) S hK hH (kX3_init (s.heap.size + 23) hnM rfl) ceX3_init mW293 rfl hl.1 rfl (Nat.le_of_ble_eq_true rfl) dL_law_12 ⟨rfl, rfl, by decide, by decide⟩ ⟨show (((0 + 1) + 22) + 1) + 12 ≤ 600000 by omega, show (((0 + 7) + 785) + 16) + 22582 ≤ 7302250 by omega⟩) hH (fun w6 n6 H locs hp hH => ?_)
  obtain ⟨hn1, hfr, hms⟩ := hp
  rw [hn1] at hH
  replace hdn := hdn.kept (fun b hb => hfr b (Or.inl hb))
  have hds := hdn.S
  refine lv_astore_n (lv' := [(2, .ref (s.heap.size + 23)), (1, .ref (s.heap.size)), (0, .ref (b))]) S.1 S.2.1 dL_law_15 rfl hl (by decide) rfl (fun ls hl => ?_)
  refine lv_iconst (v := nI 0) S.1 S.2.1 dL_law_16 (by decide) ?_
  refine lv_istore_n (lv' := [(3, .int (nI 0)), (2, .ref (s.heap.size + 23)), (1, .ref (s.heap.size)), (0, .ref (b))]) S.1 S.2.1 dL_law_17 rfl hl (by decide) rfl (fun ls hl => ?_)
  refine wlp2 (P := fun k_ c0 s0 ls H locs => ∃ (i : Nat) (σ : St) (n : Nat) (w : Wm), lv_has ls 4 [(0, .ref (b)), (1, .ref (s.heap.size)), (2, .ref (s.heap.size + 23)), (3, .int (nI i))] ∧ HS G s.heap.size w n s H locs ∧ DeskS G w n (s.heap.size) σ ∧ ModS G w (s.heap.size + 23) σ ∧ i ≤ L + 6 ∧ c0 ≤ 40 + 4 * i ∧ s0 ≤ 24000 + 141 * i ∧ k_ = 4000 - i) ?_ (k0 := 4000 - 0) ⟨0, st0, _, w6, lv_sub hl [3, 2, 1, 0] rfl, hH, hds, hms, by omega, by omega, by omega, rfl⟩
  intro k18 c0 s0 ls H locs hP ih18
  obtain ⟨i, σ, n, w, hl, hH, hds, hms, hi, hc0, hs0, hk⟩ := hP
  obtain ⟨fs1, ho1⟩ := hds.ob
  obtain ⟨fs2, ho2⟩ := hms.ob
  refine lv_iload_n S.1 S.2.1 dL_law_18 rfl (lv_at hl 3 rfl) ?_
  refine lv_aload_n S.1 S.2.1 dL_law_19 rfl (lv_at hl 0 rfl) ?_
  refine va_slen S.1 S.2.1 hX hbl hbA hH.2.1 dL_law_20 ?_
  refine lv_bipush (v := nI 6) S.1 S.2.1 dL_law_21 (by decide) ?_
  refine lv_isub S.1 S.2.1 dL_law_23 ?_
  refine tpi (x' := nI L - nI 6) (rfl) ?_
  refine lv_icmp_gt (tgt := 640) S.1 S.2.1 dL_law_24 (by decide) (fun c24 => ?_) (fun c24 => ?_)
  · skip
    refine lv_iconst (v := nI 1) S.1 S.2.1 dL_law_640 (by decide) ?_
    refine va_forget (fun q hq => hH.2.1.2.2 q hq) ?_
    refine W.widen (k := 600000) (n := 7302250) (by omega) (by omega) ?_
    exact lw_ret S.1 S.2.1 hr hlocks dL_law_641
  · skip
    have c24 := law_c (by omega) (by omega) c24
    refine lv_aload_n S.1 S.2.1 dL_law_27 rfl (lv_at hl 0 rfl) ?_
    refine lv_iload_n S.1 S.2.1 dL_law_28 rfl (lv_at hl 3 rfl) ?_
    refine va_sld S.1 S.2.1 hX hbl hbA hH.2.1 (vp_in_nI (by omega) (by omega)) dL_law_29 ?_
    refine tpi (x' := xs (i)) (by rw [nI_clamp (by omega)]) ?_
    refine lv_bipush (v := nI 15) S.1 S.2.1 dL_law_30 (by decide) ?_
    refine lv_iand S.1 S.2.1 dL_law_32 ?_
    refine tpi (x' := (xs (i) &&& nI 15)) (rfl) ?_
    obtain ⟨q, hq, eq⟩ := pk_andE (xs (i)) (m := nI 15) 4 (by decide)
    refine tpi (x' := nI q) eq ?_
    rcases (show q = 0 ∨ q = 1 ∨ q = 2 ∨ q = 3 ∨ q = 4 ∨ q = 5 ∨ q = 6 ∨ q = 7 ∨ q = 8 ∨ q = 9 ∨ q = 10 ∨ q = 11 ∨ q = 12 ∨ q = 13 ∨ q = 14 ∨ q = 15 by omega) with rfl | rfl | rfl | rfl | rfl | rfl | rfl | rfl | rfl | rfl | rfl | rfl | rfl | rfl | rfl | rfl
    · skip
      refine lv_tableIn (tgt := 108) (off := 75) S.1 S.2.1 dL_law_33 (by decide) (by decide) (by decide) (by decide) ?_
      refine lv_aload_n S.1 S.2.1 dL_law_108 rfl (lv_at hl 1 rfl) ?_
      refine lv_aload_n S.1 S.2.1 dL_law_109 rfl (lv_at hl 0 rfl) ?_
      refine lv_iload_n S.1 S.2.1 dL_law_110 rfl (lv_at hl 3 rfl) ?_
      refine lv_iconst (v := nI 1) S.1 S.2.1 dL_law_111 (by decide) ?_
      refine lv_iadd S.1 S.2.1 dL_law_112 ?_
      refine tpi (x' := nI (i + 1)) (nI_add _ _) ?_
      refine va_sld S.1 S.2.1 hX hbl hbA hH.2.1 (vp_in_nI (by omega) (by omega)) dL_law_113 ?_
      refine tpi (x' := xs (i + 1)) (by rw [nI_clamp (by omega)]) ?_
      refine lv_aload_n S.1 S.2.1 dL_law_114 rfl (lv_at hl 0 rfl) ?_
      refine lv_iload_n S.1 S.2.1 dL_law_115 rfl (lv_at hl 3 rfl) ?_
      refine lv_iconst (v := nI 2) S.1 S.2.1 dL_law_116 (by decide) ?_
      refine lv_iadd S.1 S.2.1 dL_law_117 ?_
      refine tpi (x' := nI (i + 2)) (nI_add _ _) ?_
      refine va_sld S.1 S.2.1 hX hbl hbA hH.2.1 (vp_in_nI (by omega) (by omega)) dL_law_118 ?_
      refine tpi (x' := xs (i + 2)) (by rw [nI_clamp (by omega)]) ?_
      refine ck_i (run_V (As := [.int (xs (i + 1)), .int (xs (i + 2))]) (rest := []) S hK hH (kX2_constant (s.heap.size) (xs (i + 1)) (xs (i + 2)) σ hds) ceX2_constant mW97 ho1 rfl rfl hl.1 rfl (Nat.le_of_ble_eq_true rfl) dL_law_119 ⟨rfl, rfl, by decide, by decide⟩ ⟨show c0 + 4 ≤ 600000 by omega, show s0 + 141 ≤ 7302250 by omega⟩) hH (fun r119 w7 n7 H locs hp hH => ?_)
      obtain ⟨hn1, hfr, hr1, hds⟩ := hp
      replace hms := hms.kept (fun b hb => hfr b hb)
      obtain ⟨fs1, ho1⟩ := hds.ob
      obtain ⟨fs2, ho2⟩ := hms.ob
      refine lv_aload_n S.1 S.2.1 dL_law_122 rfl (lv_at hl 2 rfl) ?_
      refine lv_aload_n S.1 S.2.1 dL_law_123 rfl (lv_at hl 0 rfl) ?_
      refine lv_iload_n S.1 S.2.1 dL_law_124 rfl (lv_at hl 3 rfl) ?_
      refine lv_iconst (v := nI 1) S.1 S.2.1 dL_law_125 (by decide) ?_
      refine lv_iadd S.1 S.2.1 dL_law_126 ?_
      refine tpi (x' := nI (i + 1)) (nI_add _ _) ?_
      refine va_sld S.1 S.2.1 hX hbl hbA hH.2.1 (vp_in_nI (by omega) (by omega)) dL_law_127 ?_
      refine tpi (x' := xs (i + 1)) (by rw [nI_clamp (by omega)]) ?_
      refine lv_aload_n S.1 S.2.1 dL_law_128 rfl (lv_at hl 0 rfl) ?_
      refine lv_iload_n S.1 S.2.1 dL_law_129 rfl (lv_at hl 3 rfl) ?_
      refine lv_iconst (v := nI 2) S.1 S.2.1 dL_law_130 (by decide) ?_
      refine lv_iadd S.1 S.2.1 dL_law_131 ?_
      refine tpi (x' := nI (i + 2)) (nI_add _ _) ?_
      refine va_sld S.1 S.2.1 hX hbl hbA hH.2.1 (vp_in_nI (by omega) (by omega)) dL_law_132 ?_
      refine tpi (x' := xs (i + 2)) (by rw [nI_clamp (by omega)]) ?_
      refine ck_i (run_V (As := [.int (xs (i + 1)), .int (xs (i + 2))]) (rest := [.int (r119)]) S hK hH (kX3_constant (s.heap.size + 23) (xs (i + 1)) (xs (i + 2)) σ hms) ceX3_constant mW346 ho2 rfl rfl hl.1 rfl (Nat.le_of_ble_eq_true rfl) dL_law_133 ⟨rfl, rfl, by decide, by decide⟩ ⟨show (c0 + 4) + 0 ≤ 600000 by omega, show (s0 + 141) + 0 ≤ 7302250 by omega⟩) hH (fun r133 w8 n8 H locs hp hH => ?_)
      obtain ⟨hn2, hfr, hr2, hms⟩ := hp
      rw [hn2] at hH
      replace hds := hds.kept (fun b hb => hfr b (by omega))
      refine lv_icmp_eq (tgt := 634) S.1 S.2.1 dL_law_136 (by decide) (fun c136 => ?_) (fun c136 => ?_)
      · skip
        refine lv_iinc (v := nI (i + 6)) (lv' := [(3, .int (nI (i + 6))), (0, .ref (b)), (1, .ref (s.heap.size)), (2, .ref (s.heap.size + 23))]) S.1 S.2.1 dL_law_634 hl (k := 3) rfl (nI_inc _ 6) (by decide) rfl (fun ls hl => ?_)
        refine lv_goto (tgt := 18) S.1 S.2.1 dL_law_637 (by decide) ?_
        exact ih18 _ _ _ _ _ _ (by omega) ⟨i + 6, (sConst σ (xs (i + 1)) (xs (i + 2))).2, _, w8, lv_sub hl [1, 2, 3, 0] rfl, hH, hds, hms, by omega, by omega, by omega, rfl⟩
      · skip
        exact absurd (hr1.trans hr2.symm) c136
    · skip
      refine lv_tableIn (tgt := 141) (off := 108) S.1 S.2.1 dL_law_33 (by decide) (by decide) (by decide) (by decide) ?_
      refine lv_aload_n S.1 S.2.1 dL_law_141 rfl (lv_at hl 1 rfl) ?_
      refine lv_aload_n S.1 S.2.1 dL_law_142 rfl (lv_at hl 0 rfl) ?_
      refine lv_iload_n S.1 S.2.1 dL_law_143 rfl (lv_at hl 3 rfl) ?_
      refine lv_iconst (v := nI 1) S.1 S.2.1 dL_law_144 (by decide) ?_
      refine lv_iadd S.1 S.2.1 dL_law_145 ?_
      refine tpi (x' := nI (i + 1)) (nI_add _ _) ?_
      refine va_sld S.1 S.2.1 hX hbl hbA hH.2.1 (vp_in_nI (by omega) (by omega)) dL_law_146 ?_
      refine tpi (x' := xs (i + 1)) (by rw [nI_clamp (by omega)]) ?_
      refine lv_aload_n S.1 S.2.1 dL_law_147 rfl (lv_at hl 0 rfl) ?_
      refine lv_iload_n S.1 S.2.1 dL_law_148 rfl (lv_at hl 3 rfl) ?_
      refine lv_iconst (v := nI 2) S.1 S.2.1 dL_law_149 (by decide) ?_
      refine lv_iadd S.1 S.2.1 dL_law_150 ?_
      refine tpi (x' := nI (i + 2)) (nI_add _ _) ?_
      refine va_sld S.1 S.2.1 hX hbl hbA hH.2.1 (vp_in_nI (by omega) (by omega)) dL_law_151 ?_
      refine tpi (x' := xs (i + 2)) (by rw [nI_clamp (by omega)]) ?_
      refine ck_i (run_V (As := [.int (xs (i + 1)), .int (xs (i + 2))]) (rest := []) S hK hH (kX2_symbol (s.heap.size) (xs (i + 1)) (xs (i + 2)) σ hds) ceX2_symbol mW131 ho1 rfl rfl hl.1 rfl (Nat.le_of_ble_eq_true rfl) dL_law_152 ⟨rfl, rfl, by decide, by decide⟩ ⟨show c0 + 4 ≤ 600000 by omega, show s0 + 141 ≤ 7302250 by omega⟩) hH (fun r152 w9 n9 H locs hp hH => ?_)
      obtain ⟨hn1, hfr, hr1, hds⟩ := hp
      replace hms := hms.kept (fun b hb => hfr b hb)
      obtain ⟨fs1, ho1⟩ := hds.ob
      obtain ⟨fs2, ho2⟩ := hms.ob
      refine lv_aload_n S.1 S.2.1 dL_law_155 rfl (lv_at hl 2 rfl) ?_
      refine lv_aload_n S.1 S.2.1 dL_law_156 rfl (lv_at hl 0 rfl) ?_
      refine lv_iload_n S.1 S.2.1 dL_law_157 rfl (lv_at hl 3 rfl) ?_
      refine lv_iconst (v := nI 1) S.1 S.2.1 dL_law_158 (by decide) ?_
      refine lv_iadd S.1 S.2.1 dL_law_159 ?_
      refine tpi (x' := nI (i + 1)) (nI_add _ _) ?_
      refine va_sld S.1 S.2.1 hX hbl hbA hH.2.1 (vp_in_nI (by omega) (by omega)) dL_law_160 ?_
      refine tpi (x' := xs (i + 1)) (by rw [nI_clamp (by omega)]) ?_
      refine lv_aload_n S.1 S.2.1 dL_law_161 rfl (lv_at hl 0 rfl) ?_
      refine lv_iload_n S.1 S.2.1 dL_law_162 rfl (lv_at hl 3 rfl) ?_
      refine lv_iconst (v := nI 2) S.1 S.2.1 dL_law_163 (by decide) ?_
      refine lv_iadd S.1 S.2.1 dL_law_164 ?_
      refine tpi (x' := nI (i + 2)) (nI_add _ _) ?_
      refine va_sld S.1 S.2.1 hX hbl hbA hH.2.1 (vp_in_nI (by omega) (by omega)) dL_law_165 ?_
      refine tpi (x' := xs (i + 2)) (by rw [nI_clamp (by omega)]) ?_
      refine ck_i (run_V (As := [.int (xs (i + 1)), .int (xs (i + 2))]) (rest := [.int (r152)]) S hK hH (kX3_symbol (s.heap.size + 23) (xs (i + 1)) (xs (i + 2)) σ hms) ceX3_symbol mW383 ho2 rfl rfl hl.1 rfl (Nat.le_of_ble_eq_true rfl) dL_law_166 ⟨rfl, rfl, by decide, by decide⟩ ⟨show (c0 + 4) + 0 ≤ 600000 by omega, show (s0 + 141) + 0 ≤ 7302250 by omega⟩) hH (fun r166 w10 n10 H locs hp hH => ?_)
      obtain ⟨hn2, hfr, hr2, hms⟩ := hp
      rw [hn2] at hH
      replace hds := hds.kept (fun b hb => hfr b (by omega))
      refine lv_icmp_eq (tgt := 634) S.1 S.2.1 dL_law_169 (by decide) (fun c169 => ?_) (fun c169 => ?_)
      · skip
        refine lv_iinc (v := nI (i + 6)) (lv' := [(3, .int (nI (i + 6))), (0, .ref (b)), (1, .ref (s.heap.size)), (2, .ref (s.heap.size + 23))]) S.1 S.2.1 dL_law_634 hl (k := 3) rfl (nI_inc _ 6) (by decide) rfl (fun ls hl => ?_)
        refine lv_goto (tgt := 18) S.1 S.2.1 dL_law_637 (by decide) ?_
        exact ih18 _ _ _ _ _ _ (by omega) ⟨i + 6, (sSym σ (xs (i + 1)) (xs (i + 2))).2, _, w10, lv_sub hl [1, 2, 3, 0] rfl, hH, hds, hms, by omega, by omega, by omega, rfl⟩
      · skip
        exact absurd (hr1.trans hr2.symm) c169
    · skip
      refine lv_tableIn (tgt := 174) (off := 141) S.1 S.2.1 dL_law_33 (by decide) (by decide) (by decide) (by decide) ?_
      refine lv_aload_n S.1 S.2.1 dL_law_174 rfl (lv_at hl 1 rfl) ?_
      refine lv_aload_n S.1 S.2.1 dL_law_175 rfl (lv_at hl 0 rfl) ?_
      refine lv_iload_n S.1 S.2.1 dL_law_176 rfl (lv_at hl 3 rfl) ?_
      refine lv_iconst (v := nI 1) S.1 S.2.1 dL_law_177 (by decide) ?_
      refine lv_iadd S.1 S.2.1 dL_law_178 ?_
      refine tpi (x' := nI (i + 1)) (nI_add _ _) ?_
      refine va_sld S.1 S.2.1 hX hbl hbA hH.2.1 (vp_in_nI (by omega) (by omega)) dL_law_179 ?_
      refine tpi (x' := xs (i + 1)) (by rw [nI_clamp (by omega)]) ?_
      refine lv_aload_n S.1 S.2.1 dL_law_180 rfl (lv_at hl 0 rfl) ?_
      refine lv_iload_n S.1 S.2.1 dL_law_181 rfl (lv_at hl 3 rfl) ?_
      refine lv_iconst (v := nI 2) S.1 S.2.1 dL_law_182 (by decide) ?_
      refine lv_iadd S.1 S.2.1 dL_law_183 ?_
      refine tpi (x' := nI (i + 2)) (nI_add _ _) ?_
      refine va_sld S.1 S.2.1 hX hbl hbA hH.2.1 (vp_in_nI (by omega) (by omega)) dL_law_184 ?_
      refine tpi (x' := xs (i + 2)) (by rw [nI_clamp (by omega)]) ?_
      refine lv_aload_n S.1 S.2.1 dL_law_185 rfl (lv_at hl 0 rfl) ?_
      refine lv_iload_n S.1 S.2.1 dL_law_186 rfl (lv_at hl 3 rfl) ?_
      refine lv_iconst (v := nI 3) S.1 S.2.1 dL_law_187 (by decide) ?_
      refine lv_iadd S.1 S.2.1 dL_law_188 ?_
      refine tpi (x' := nI (i + 3)) (nI_add _ _) ?_
      refine va_sld S.1 S.2.1 hX hbl hbA hH.2.1 (vp_in_nI (by omega) (by omega)) dL_law_189 ?_
      refine tpi (x' := xs (i + 3)) (by rw [nI_clamp (by omega)]) ?_
      refine ck_i (run_V (As := [.int (xs (i + 1)), .int (xs (i + 2)), .int (xs (i + 3))]) (rest := []) S hK hH (kX2_plus (s.heap.size) (xs (i + 1)) (xs (i + 2)) (xs (i + 3)) σ hds) ceX2_plus mW143 ho1 rfl rfl hl.1 rfl (Nat.le_of_ble_eq_true rfl) dL_law_190 ⟨rfl, rfl, by decide, by decide⟩ ⟨show c0 + 4 ≤ 600000 by omega, show s0 + 141 ≤ 7302250 by omega⟩) hH (fun r190 w11 n11 H locs hp hH => ?_)
      obtain ⟨hn1, hfr, hr1, hds⟩ := hp
      replace hms := hms.kept (fun b hb => hfr b hb)
      obtain ⟨fs1, ho1⟩ := hds.ob
      obtain ⟨fs2, ho2⟩ := hms.ob
      refine lv_aload_n S.1 S.2.1 dL_law_193 rfl (lv_at hl 2 rfl) ?_
      refine lv_aload_n S.1 S.2.1 dL_law_194 rfl (lv_at hl 0 rfl) ?_
      refine lv_iload_n S.1 S.2.1 dL_law_195 rfl (lv_at hl 3 rfl) ?_
      refine lv_iconst (v := nI 1) S.1 S.2.1 dL_law_196 (by decide) ?_
      refine lv_iadd S.1 S.2.1 dL_law_197 ?_
      refine tpi (x' := nI (i + 1)) (nI_add _ _) ?_
      refine va_sld S.1 S.2.1 hX hbl hbA hH.2.1 (vp_in_nI (by omega) (by omega)) dL_law_198 ?_
      refine tpi (x' := xs (i + 1)) (by rw [nI_clamp (by omega)]) ?_
      refine lv_aload_n S.1 S.2.1 dL_law_199 rfl (lv_at hl 0 rfl) ?_
      refine lv_iload_n S.1 S.2.1 dL_law_200 rfl (lv_at hl 3 rfl) ?_
      refine lv_iconst (v := nI 2) S.1 S.2.1 dL_law_201 (by decide) ?_
      refine lv_iadd S.1 S.2.1 dL_law_202 ?_
      refine tpi (x' := nI (i + 2)) (nI_add _ _) ?_
      refine va_sld S.1 S.2.1 hX hbl hbA hH.2.1 (vp_in_nI (by omega) (by omega)) dL_law_203 ?_
      refine tpi (x' := xs (i + 2)) (by rw [nI_clamp (by omega)]) ?_
      refine lv_aload_n S.1 S.2.1 dL_law_204 rfl (lv_at hl 0 rfl) ?_
      refine lv_iload_n S.1 S.2.1 dL_law_205 rfl (lv_at hl 3 rfl) ?_
      refine lv_iconst (v := nI 3) S.1 S.2.1 dL_law_206 (by decide) ?_
      refine lv_iadd S.1 S.2.1 dL_law_207 ?_
      refine tpi (x' := nI (i + 3)) (nI_add _ _) ?_
      refine va_sld S.1 S.2.1 hX hbl hbA hH.2.1 (vp_in_nI (by omega) (by omega)) dL_law_208 ?_
      refine tpi (x' := xs (i + 3)) (by rw [nI_clamp (by omega)]) ?_
      refine ck_i (run_V (As := [.int (xs (i + 1)), .int (xs (i + 2)), .int (xs (i + 3))]) (rest := [.int (r190)]) S hK hH (kX3_plus (s.heap.size + 23) (xs (i + 1)) (xs (i + 2)) (xs (i + 3)) σ hms) ceX3_plus mW387 ho2 rfl rfl hl.1 rfl (Nat.le_of_ble_eq_true rfl) dL_law_209 ⟨rfl, rfl, by decide, by decide⟩ ⟨show (c0 + 4) + 0 ≤ 600000 by omega, show (s0 + 141) + 0 ≤ 7302250 by omega⟩) hH (fun r209 w12 n12 H locs hp hH => ?_)
      obtain ⟨hn2, hfr, hr2, hms⟩ := hp
      rw [hn2] at hH
      replace hds := hds.kept (fun b hb => hfr b (by omega))
      refine lv_icmp_eq (tgt := 634) S.1 S.2.1 dL_law_212 (by decide) (fun c212 => ?_) (fun c212 => ?_)
      · skip
        refine lv_iinc (v := nI (i + 6)) (lv' := [(3, .int (nI (i + 6))), (0, .ref (b)), (1, .ref (s.heap.size)), (2, .ref (s.heap.size + 23))]) S.1 S.2.1 dL_law_634 hl (k := 3) rfl (nI_inc _ 6) (by decide) rfl (fun ls hl => ?_)
        refine lv_goto (tgt := 18) S.1 S.2.1 dL_law_637 (by decide) ?_
        exact ih18 _ _ _ _ _ _ (by omega) ⟨i + 6, (sComb 1 σ (xs (i + 1)) (xs (i + 2)) (xs (i + 3))).2, _, w12, lv_sub hl [1, 2, 3, 0] rfl, hH, hds, hms, by omega, by omega, by omega, rfl⟩
      · skip
        exact absurd (hr1.trans hr2.symm) c212
    · skip
      refine lv_tableIn (tgt := 217) (off := 184) S.1 S.2.1 dL_law_33 (by decide) (by decide) (by decide) (by decide) ?_
      refine lv_aload_n S.1 S.2.1 dL_law_217 rfl (lv_at hl 1 rfl) ?_
      refine lv_aload_n S.1 S.2.1 dL_law_218 rfl (lv_at hl 0 rfl) ?_
      refine lv_iload_n S.1 S.2.1 dL_law_219 rfl (lv_at hl 3 rfl) ?_
      refine lv_iconst (v := nI 1) S.1 S.2.1 dL_law_220 (by decide) ?_
      refine lv_iadd S.1 S.2.1 dL_law_221 ?_
      refine tpi (x' := nI (i + 1)) (nI_add _ _) ?_
      refine va_sld S.1 S.2.1 hX hbl hbA hH.2.1 (vp_in_nI (by omega) (by omega)) dL_law_222 ?_
      refine tpi (x' := xs (i + 1)) (by rw [nI_clamp (by omega)]) ?_
      refine lv_aload_n S.1 S.2.1 dL_law_223 rfl (lv_at hl 0 rfl) ?_
      refine lv_iload_n S.1 S.2.1 dL_law_224 rfl (lv_at hl 3 rfl) ?_
      refine lv_iconst (v := nI 2) S.1 S.2.1 dL_law_225 (by decide) ?_
      refine lv_iadd S.1 S.2.1 dL_law_226 ?_
      refine tpi (x' := nI (i + 2)) (nI_add _ _) ?_
      refine va_sld S.1 S.2.1 hX hbl hbA hH.2.1 (vp_in_nI (by omega) (by omega)) dL_law_227 ?_
      refine tpi (x' := xs (i + 2)) (by rw [nI_clamp (by omega)]) ?_
      refine lv_aload_n S.1 S.2.1 dL_law_228 rfl (lv_at hl 0 rfl) ?_
      refine lv_iload_n S.1 S.2.1 dL_law_229 rfl (lv_at hl 3 rfl) ?_
      refine lv_iconst (v := nI 3) S.1 S.2.1 dL_law_230 (by decide) ?_
      refine lv_iadd S.1 S.2.1 dL_law_231 ?_
      refine tpi (x' := nI (i + 3)) (nI_add _ _) ?_
      refine va_sld S.1 S.2.1 hX hbl hbA hH.2.1 (vp_in_nI (by omega) (by omega)) dL_law_232 ?_
      refine tpi (x' := xs (i + 3)) (by rw [nI_clamp (by omega)]) ?_
      refine ck_i (run_V (As := [.int (xs (i + 1)), .int (xs (i + 2)), .int (xs (i + 3))]) (rest := []) S hK hH (kX2_minus (s.heap.size) (xs (i + 1)) (xs (i + 2)) (xs (i + 3)) σ hds) ceX2_minus mW160 ho1 rfl rfl hl.1 rfl (Nat.le_of_ble_eq_true rfl) dL_law_233 ⟨rfl, rfl, by decide, by decide⟩ ⟨show c0 + 4 ≤ 600000 by omega, show s0 + 141 ≤ 7302250 by omega⟩) hH (fun r233 w13 n13 H locs hp hH => ?_)
      obtain ⟨hn1, hfr, hr1, hds⟩ := hp
      replace hms := hms.kept (fun b hb => hfr b hb)
      obtain ⟨fs1, ho1⟩ := hds.ob
      obtain ⟨fs2, ho2⟩ := hms.ob
      refine lv_aload_n S.1 S.2.1 dL_law_236 rfl (lv_at hl 2 rfl) ?_
      refine lv_aload_n S.1 S.2.1 dL_law_237 rfl (lv_at hl 0 rfl) ?_
      refine lv_iload_n S.1 S.2.1 dL_law_238 rfl (lv_at hl 3 rfl) ?_
      refine lv_iconst (v := nI 1) S.1 S.2.1 dL_law_239 (by decide) ?_
      refine lv_iadd S.1 S.2.1 dL_law_240 ?_
      refine tpi (x' := nI (i + 1)) (nI_add _ _) ?_
      refine va_sld S.1 S.2.1 hX hbl hbA hH.2.1 (vp_in_nI (by omega) (by omega)) dL_law_241 ?_
      refine tpi (x' := xs (i + 1)) (by rw [nI_clamp (by omega)]) ?_
      refine lv_aload_n S.1 S.2.1 dL_law_242 rfl (lv_at hl 0 rfl) ?_
      refine lv_iload_n S.1 S.2.1 dL_law_243 rfl (lv_at hl 3 rfl) ?_
      refine lv_iconst (v := nI 2) S.1 S.2.1 dL_law_244 (by decide) ?_
      refine lv_iadd S.1 S.2.1 dL_law_245 ?_
      refine tpi (x' := nI (i + 2)) (nI_add _ _) ?_
      refine va_sld S.1 S.2.1 hX hbl hbA hH.2.1 (vp_in_nI (by omega) (by omega)) dL_law_246 ?_
      refine tpi (x' := xs (i + 2)) (by rw [nI_clamp (by omega)]) ?_
      refine lv_aload_n S.1 S.2.1 dL_law_247 rfl (lv_at hl 0 rfl) ?_
      refine lv_iload_n S.1 S.2.1 dL_law_248 rfl (lv_at hl 3 rfl) ?_
      refine lv_iconst (v := nI 3) S.1 S.2.1 dL_law_249 (by decide) ?_
      refine lv_iadd S.1 S.2.1 dL_law_250 ?_
      refine tpi (x' := nI (i + 3)) (nI_add _ _) ?_
      refine va_sld S.1 S.2.1 hX hbl hbA hH.2.1 (vp_in_nI (by omega) (by omega)) dL_law_251 ?_
      refine tpi (x' := xs (i + 3)) (by rw [nI_clamp (by omega)]) ?_
      refine ck_i (run_V (As := [.int (xs (i + 1)), .int (xs (i + 2)), .int (xs (i + 3))]) (rest := [.int (r233)]) S hK hH (kX3_minus (s.heap.size + 23) (xs (i + 1)) (xs (i + 2)) (xs (i + 3)) σ hms) ceX3_minus mW399 ho2 rfl rfl hl.1 rfl (Nat.le_of_ble_eq_true rfl) dL_law_252 ⟨rfl, rfl, by decide, by decide⟩ ⟨show (c0 + 4) + 0 ≤ 600000 by omega, show (s0 + 141) + 0 ≤ 7302250 by omega⟩) hH (fun r252 w14 n14 H locs hp hH => ?_)
      obtain ⟨hn2, hfr, hr2, hms⟩ := hp
      rw [hn2] at hH
      replace hds := hds.kept (fun b hb => hfr b (by omega))
      refine lv_icmp_eq (tgt := 634) S.1 S.2.1 dL_law_255 (by decide) (fun c255 => ?_) (fun c255 => ?_)
      · skip
        refine lv_iinc (v := nI (i + 6)) (lv' := [(3, .int (nI (i + 6))), (0, .ref (b)), (1, .ref (s.heap.size)), (2, .ref (s.heap.size + 23))]) S.1 S.2.1 dL_law_634 hl (k := 3) rfl (nI_inc _ 6) (by decide) rfl (fun ls hl => ?_)
        refine lv_goto (tgt := 18) S.1 S.2.1 dL_law_637 (by decide) ?_
        exact ih18 _ _ _ _ _ _ (by omega) ⟨i + 6, (sComb (-1) σ (xs (i + 1)) (xs (i + 2)) (xs (i + 3))).2, _, w14, lv_sub hl [1, 2, 3, 0] rfl, hH, hds, hms, by omega, by omega, by omega, rfl⟩
      · skip
        exact absurd (hr1.trans hr2.symm) c255
    · skip
      refine lv_tableIn (tgt := 260) (off := 227) S.1 S.2.1 dL_law_33 (by decide) (by decide) (by decide) (by decide) ?_
      refine lv_aload_n S.1 S.2.1 dL_law_260 rfl (lv_at hl 1 rfl) ?_
      refine lv_aload_n S.1 S.2.1 dL_law_261 rfl (lv_at hl 0 rfl) ?_
      refine lv_iload_n S.1 S.2.1 dL_law_262 rfl (lv_at hl 3 rfl) ?_
      refine lv_iconst (v := nI 1) S.1 S.2.1 dL_law_263 (by decide) ?_
      refine lv_iadd S.1 S.2.1 dL_law_264 ?_
      refine tpi (x' := nI (i + 1)) (nI_add _ _) ?_
      refine va_sld S.1 S.2.1 hX hbl hbA hH.2.1 (vp_in_nI (by omega) (by omega)) dL_law_265 ?_
      refine tpi (x' := xs (i + 1)) (by rw [nI_clamp (by omega)]) ?_
      refine lv_aload_n S.1 S.2.1 dL_law_266 rfl (lv_at hl 0 rfl) ?_
      refine lv_iload_n S.1 S.2.1 dL_law_267 rfl (lv_at hl 3 rfl) ?_
      refine lv_iconst (v := nI 2) S.1 S.2.1 dL_law_268 (by decide) ?_
      refine lv_iadd S.1 S.2.1 dL_law_269 ?_
      refine tpi (x' := nI (i + 2)) (nI_add _ _) ?_
      refine va_sld S.1 S.2.1 hX hbl hbA hH.2.1 (vp_in_nI (by omega) (by omega)) dL_law_270 ?_
      refine tpi (x' := xs (i + 2)) (by rw [nI_clamp (by omega)]) ?_
      refine lv_aload_n S.1 S.2.1 dL_law_271 rfl (lv_at hl 0 rfl) ?_
      refine lv_iload_n S.1 S.2.1 dL_law_272 rfl (lv_at hl 3 rfl) ?_
      refine lv_iconst (v := nI 3) S.1 S.2.1 dL_law_273 (by decide) ?_
      refine lv_iadd S.1 S.2.1 dL_law_274 ?_
      refine tpi (x' := nI (i + 3)) (nI_add _ _) ?_
      refine va_sld S.1 S.2.1 hX hbl hbA hH.2.1 (vp_in_nI (by omega) (by omega)) dL_law_275 ?_
      refine tpi (x' := xs (i + 3)) (by rw [nI_clamp (by omega)]) ?_
      refine ck_i (run_V (As := [.int (xs (i + 1)), .int (xs (i + 2)), .int (xs (i + 3))]) (rest := []) S hK hH (kX2_times (s.heap.size) (xs (i + 1)) (xs (i + 2)) (xs (i + 3)) σ hds) ceX2_times mW164 ho1 rfl rfl hl.1 rfl (Nat.le_of_ble_eq_true rfl) dL_law_276 ⟨rfl, rfl, by decide, by decide⟩ ⟨show c0 + 4 ≤ 600000 by omega, show s0 + 141 ≤ 7302250 by omega⟩) hH (fun r276 w15 n15 H locs hp hH => ?_)
      obtain ⟨hn1, hfr, hr1, hds⟩ := hp
      replace hms := hms.kept (fun b hb => hfr b hb)
      obtain ⟨fs1, ho1⟩ := hds.ob
      obtain ⟨fs2, ho2⟩ := hms.ob
      refine lv_aload_n S.1 S.2.1 dL_law_279 rfl (lv_at hl 2 rfl) ?_
      refine lv_aload_n S.1 S.2.1 dL_law_280 rfl (lv_at hl 0 rfl) ?_
      refine lv_iload_n S.1 S.2.1 dL_law_281 rfl (lv_at hl 3 rfl) ?_
      refine lv_iconst (v := nI 1) S.1 S.2.1 dL_law_282 (by decide) ?_
      refine lv_iadd S.1 S.2.1 dL_law_283 ?_
      refine tpi (x' := nI (i + 1)) (nI_add _ _) ?_
      refine va_sld S.1 S.2.1 hX hbl hbA hH.2.1 (vp_in_nI (by omega) (by omega)) dL_law_284 ?_
      refine tpi (x' := xs (i + 1)) (by rw [nI_clamp (by omega)]) ?_
      refine lv_aload_n S.1 S.2.1 dL_law_285 rfl (lv_at hl 0 rfl) ?_
      refine lv_iload_n S.1 S.2.1 dL_law_286 rfl (lv_at hl 3 rfl) ?_
      refine lv_iconst (v := nI 2) S.1 S.2.1 dL_law_287 (by decide) ?_
      refine lv_iadd S.1 S.2.1 dL_law_288 ?_
      refine tpi (x' := nI (i + 2)) (nI_add _ _) ?_
      refine va_sld S.1 S.2.1 hX hbl hbA hH.2.1 (vp_in_nI (by omega) (by omega)) dL_law_289 ?_
      refine tpi (x' := xs (i + 2)) (by rw [nI_clamp (by omega)]) ?_
      refine lv_aload_n S.1 S.2.1 dL_law_290 rfl (lv_at hl 0 rfl) ?_
      refine lv_iload_n S.1 S.2.1 dL_law_291 rfl (lv_at hl 3 rfl) ?_
      refine lv_iconst (v := nI 3) S.1 S.2.1 dL_law_292 (by decide) ?_
      refine lv_iadd S.1 S.2.1 dL_law_293 ?_
      refine tpi (x' := nI (i + 3)) (nI_add _ _) ?_
      refine va_sld S.1 S.2.1 hX hbl hbA hH.2.1 (vp_in_nI (by omega) (by omega)) dL_law_294 ?_
      refine tpi (x' := xs (i + 3)) (by rw [nI_clamp (by omega)]) ?_
      refine ck_i (run_V (As := [.int (xs (i + 1)), .int (xs (i + 2)), .int (xs (i + 3))]) (rest := [.int (r276)]) S hK hH (kX3_times (s.heap.size + 23) (xs (i + 1)) (xs (i + 2)) (xs (i + 3)) σ hms) ceX3_times mW404 ho2 rfl rfl hl.1 rfl (Nat.le_of_ble_eq_true rfl) dL_law_295 ⟨rfl, rfl, by decide, by decide⟩ ⟨show (c0 + 4) + 0 ≤ 600000 by omega, show (s0 + 141) + 0 ≤ 7302250 by omega⟩) hH (fun r295 w16 n16 H locs hp hH => ?_)
      obtain ⟨hn2, hfr, hr2, hms⟩ := hp
      rw [hn2] at hH
      replace hds := hds.kept (fun b hb => hfr b (by omega))
      refine lv_icmp_eq (tgt := 634) S.1 S.2.1 dL_law_298 (by decide) (fun c298 => ?_) (fun c298 => ?_)
      · skip
        refine lv_iinc (v := nI (i + 6)) (lv' := [(3, .int (nI (i + 6))), (0, .ref (b)), (1, .ref (s.heap.size)), (2, .ref (s.heap.size + 23))]) S.1 S.2.1 dL_law_634 hl (k := 3) rfl (nI_inc _ 6) (by decide) rfl (fun ls hl => ?_)
        refine lv_goto (tgt := 18) S.1 S.2.1 dL_law_637 (by decide) ?_
        exact ih18 _ _ _ _ _ _ (by omega) ⟨i + 6, (sTimes σ (xs (i + 1)) (xs (i + 2)) (xs (i + 3))).2, _, w16, lv_sub hl [1, 2, 3, 0] rfl, hH, hds, hms, by omega, by omega, by omega, rfl⟩
      · skip
        exact absurd (hr1.trans hr2.symm) c298
    · skip
      refine lv_tableIn (tgt := 303) (off := 270) S.1 S.2.1 dL_law_33 (by decide) (by decide) (by decide) (by decide) ?_
      refine lv_aload_n S.1 S.2.1 dL_law_303 rfl (lv_at hl 1 rfl) ?_
      refine lv_aload_n S.1 S.2.1 dL_law_304 rfl (lv_at hl 0 rfl) ?_
      refine lv_iload_n S.1 S.2.1 dL_law_305 rfl (lv_at hl 3 rfl) ?_
      refine lv_iconst (v := nI 1) S.1 S.2.1 dL_law_306 (by decide) ?_
      refine lv_iadd S.1 S.2.1 dL_law_307 ?_
      refine tpi (x' := nI (i + 1)) (nI_add _ _) ?_
      refine va_sld S.1 S.2.1 hX hbl hbA hH.2.1 (vp_in_nI (by omega) (by omega)) dL_law_308 ?_
      refine tpi (x' := xs (i + 1)) (by rw [nI_clamp (by omega)]) ?_
      refine lv_aload_n S.1 S.2.1 dL_law_309 rfl (lv_at hl 0 rfl) ?_
      refine lv_iload_n S.1 S.2.1 dL_law_310 rfl (lv_at hl 3 rfl) ?_
      refine lv_iconst (v := nI 2) S.1 S.2.1 dL_law_311 (by decide) ?_
      refine lv_iadd S.1 S.2.1 dL_law_312 ?_
      refine tpi (x' := nI (i + 2)) (nI_add _ _) ?_
      refine va_sld S.1 S.2.1 hX hbl hbA hH.2.1 (vp_in_nI (by omega) (by omega)) dL_law_313 ?_
      refine tpi (x' := xs (i + 2)) (by rw [nI_clamp (by omega)]) ?_
      refine ck_i (run_V (As := [.int (xs (i + 1)), .int (xs (i + 2))]) (rest := []) S hK hH (kX2_put (s.heap.size) (xs (i + 1)) (xs (i + 2)) σ hds) ceX2_put mW201 ho1 rfl rfl hl.1 rfl (Nat.le_of_ble_eq_true rfl) dL_law_314 ⟨rfl, rfl, by decide, by decide⟩ ⟨show c0 + 4 ≤ 600000 by omega, show s0 + 141 ≤ 7302250 by omega⟩) hH (fun r314 w17 n17 H locs hp hH => ?_)
      obtain ⟨hn1, hfr, hr1, hds⟩ := hp
      replace hms := hms.kept (fun b hb => hfr b hb)
      obtain ⟨fs1, ho1⟩ := hds.ob
      obtain ⟨fs2, ho2⟩ := hms.ob
      refine lv_aload_n S.1 S.2.1 dL_law_317 rfl (lv_at hl 2 rfl) ?_
      refine lv_aload_n S.1 S.2.1 dL_law_318 rfl (lv_at hl 0 rfl) ?_
      refine lv_iload_n S.1 S.2.1 dL_law_319 rfl (lv_at hl 3 rfl) ?_
      refine lv_iconst (v := nI 1) S.1 S.2.1 dL_law_320 (by decide) ?_
      refine lv_iadd S.1 S.2.1 dL_law_321 ?_
      refine tpi (x' := nI (i + 1)) (nI_add _ _) ?_
      refine va_sld S.1 S.2.1 hX hbl hbA hH.2.1 (vp_in_nI (by omega) (by omega)) dL_law_322 ?_
      refine tpi (x' := xs (i + 1)) (by rw [nI_clamp (by omega)]) ?_
      refine lv_aload_n S.1 S.2.1 dL_law_323 rfl (lv_at hl 0 rfl) ?_
      refine lv_iload_n S.1 S.2.1 dL_law_324 rfl (lv_at hl 3 rfl) ?_
      refine lv_iconst (v := nI 2) S.1 S.2.1 dL_law_325 (by decide) ?_
      refine lv_iadd S.1 S.2.1 dL_law_326 ?_
      refine tpi (x' := nI (i + 2)) (nI_add _ _) ?_
      refine va_sld S.1 S.2.1 hX hbl hbA hH.2.1 (vp_in_nI (by omega) (by omega)) dL_law_327 ?_
      refine tpi (x' := xs (i + 2)) (by rw [nI_clamp (by omega)]) ?_
      refine ck_i (run_V (As := [.int (xs (i + 1)), .int (xs (i + 2))]) (rest := [.int (r314)]) S hK hH (kX3_put (s.heap.size + 23) (xs (i + 1)) (xs (i + 2)) σ hms) ceX3_put mW416 ho2 rfl rfl hl.1 rfl (Nat.le_of_ble_eq_true rfl) dL_law_328 ⟨rfl, rfl, by decide, by decide⟩ ⟨show (c0 + 4) + 0 ≤ 600000 by omega, show (s0 + 141) + 0 ≤ 7302250 by omega⟩) hH (fun r328 w18 n18 H locs hp hH => ?_)
      obtain ⟨hn2, hfr, hr2, hms⟩ := hp
      rw [hn2] at hH
      replace hds := hds.kept (fun b hb => hfr b (by omega))
      refine lv_icmp_eq (tgt := 634) S.1 S.2.1 dL_law_331 (by decide) (fun c331 => ?_) (fun c331 => ?_)
      · skip
        refine lv_iinc (v := nI (i + 6)) (lv' := [(3, .int (nI (i + 6))), (0, .ref (b)), (1, .ref (s.heap.size)), (2, .ref (s.heap.size + 23))]) S.1 S.2.1 dL_law_634 hl (k := 3) rfl (nI_inc _ 6) (by decide) rfl (fun ls hl => ?_)
        refine lv_goto (tgt := 18) S.1 S.2.1 dL_law_637 (by decide) ?_
        exact ih18 _ _ _ _ _ _ (by omega) ⟨i + 6, (sPut σ (xs (i + 1)) (xs (i + 2))).2, _, w18, lv_sub hl [1, 2, 3, 0] rfl, hH, hds, hms, by omega, by omega, by omega, rfl⟩
      · skip
        exact absurd (hr1.trans hr2.symm) c331
    · skip
      refine lv_tableIn (tgt := 336) (off := 303) S.1 S.2.1 dL_law_33 (by decide) (by decide) (by decide) (by decide) ?_
      refine lv_aload_n S.1 S.2.1 dL_law_336 rfl (lv_at hl 1 rfl) ?_
      refine lv_aload_n S.1 S.2.1 dL_law_337 rfl (lv_at hl 0 rfl) ?_
      refine lv_iload_n S.1 S.2.1 dL_law_338 rfl (lv_at hl 3 rfl) ?_
      refine lv_iconst (v := nI 1) S.1 S.2.1 dL_law_339 (by decide) ?_
      refine lv_iadd S.1 S.2.1 dL_law_340 ?_
      refine tpi (x' := nI (i + 1)) (nI_add _ _) ?_
      refine va_sld S.1 S.2.1 hX hbl hbA hH.2.1 (vp_in_nI (by omega) (by omega)) dL_law_341 ?_
      refine tpi (x' := xs (i + 1)) (by rw [nI_clamp (by omega)]) ?_
      refine ck_ip (run_V (As := [.int (xs (i + 1))]) (rest := []) S hK hH (kX2_size (s.heap.size) (xs (i + 1)) σ hds) ceX2_size mW234 ho1 rfl rfl hl.1 rfl (Nat.le_of_ble_eq_true rfl) dL_law_342 ⟨rfl, rfl, by decide, by decide⟩ ⟨show c0 + 0 ≤ 600000 by omega, show s0 + 0 ≤ 7302250 by omega⟩) hH (fun r342 H locs hp hH => ?_)
      have hr1 : Hid _ := hp
      clear hp
      refine lv_aload_n S.1 S.2.1 dL_law_345 rfl (lv_at hl 2 rfl) ?_
      refine lv_aload_n S.1 S.2.1 dL_law_346 rfl (lv_at hl 0 rfl) ?_
      refine lv_iload_n S.1 S.2.1 dL_law_347 rfl (lv_at hl 3 rfl) ?_
      refine lv_iconst (v := nI 1) S.1 S.2.1 dL_law_348 (by decide) ?_
      refine lv_iadd S.1 S.2.1 dL_law_349 ?_
      refine tpi (x' := nI (i + 1)) (nI_add _ _) ?_
      refine va_sld S.1 S.2.1 hX hbl hbA hH.2.1 (vp_in_nI (by omega) (by omega)) dL_law_350 ?_
      refine tpi (x' := xs (i + 1)) (by rw [nI_clamp (by omega)]) ?_
      refine ck_ip (run_V (As := [.int (xs (i + 1))]) (rest := [.int (r342)]) S hK hH (kX3_size (s.heap.size + 23) (xs (i + 1)) σ hms) ceX3_size mW428 ho2 rfl rfl hl.1 rfl (Nat.le_of_ble_eq_true rfl) dL_law_351 ⟨rfl, rfl, by decide, by decide⟩ ⟨show c0 + 0 ≤ 600000 by omega, show s0 + 0 ≤ 7302250 by omega⟩) hH (fun r351 H locs hp hH => ?_)
      have hr2 : Hid _ := hp
      clear hp
      refine lv_icmp_eq (tgt := 634) S.1 S.2.1 dL_law_354 (by decide) (fun c354 => ?_) (fun c354 => ?_)
      · skip
        refine lv_iinc (v := nI (i + 6)) (lv' := [(3, .int (nI (i + 6))), (0, .ref (b)), (1, .ref (s.heap.size)), (2, .ref (s.heap.size + 23))]) S.1 S.2.1 dL_law_634 hl (k := 3) rfl (nI_inc _ 6) (by decide) rfl (fun ls hl => ?_)
        refine lv_goto (tgt := 18) S.1 S.2.1 dL_law_637 (by decide) ?_
        exact ih18 _ _ _ _ _ _ (by omega) ⟨i + 6, σ, _, w, lv_sub hl [1, 2, 3, 0] rfl, hH, hds, hms, by omega, by omega, by omega, rfl⟩
      · skip
        exact absurd (hr1.trans hr2.symm) c354
    · skip
      refine lv_tableIn (tgt := 359) (off := 326) S.1 S.2.1 dL_law_33 (by decide) (by decide) (by decide) (by decide) ?_
      refine lv_aload_n S.1 S.2.1 dL_law_359 rfl (lv_at hl 1 rfl) ?_
      refine lv_aload_n S.1 S.2.1 dL_law_360 rfl (lv_at hl 0 rfl) ?_
      refine lv_iload_n S.1 S.2.1 dL_law_361 rfl (lv_at hl 3 rfl) ?_
      refine lv_iconst (v := nI 1) S.1 S.2.1 dL_law_362 (by decide) ?_
      refine lv_iadd S.1 S.2.1 dL_law_363 ?_
      refine tpi (x' := nI (i + 1)) (nI_add _ _) ?_
      refine va_sld S.1 S.2.1 hX hbl hbA hH.2.1 (vp_in_nI (by omega) (by omega)) dL_law_364 ?_
      refine tpi (x' := xs (i + 1)) (by rw [nI_clamp (by omega)]) ?_
      refine lv_aload_n S.1 S.2.1 dL_law_365 rfl (lv_at hl 0 rfl) ?_
      refine lv_iload_n S.1 S.2.1 dL_law_366 rfl (lv_at hl 3 rfl) ?_
      refine lv_iconst (v := nI 2) S.1 S.2.1 dL_law_367 (by decide) ?_
      refine lv_iadd S.1 S.2.1 dL_law_368 ?_
      refine tpi (x' := nI (i + 2)) (nI_add _ _) ?_
      refine va_sld S.1 S.2.1 hX hbl hbA hH.2.1 (vp_in_nI (by omega) (by omega)) dL_law_369 ?_
      refine tpi (x' := xs (i + 2)) (by rw [nI_clamp (by omega)]) ?_
      refine lv_aload_n S.1 S.2.1 dL_law_370 rfl (lv_at hl 0 rfl) ?_
      refine lv_iload_n S.1 S.2.1 dL_law_371 rfl (lv_at hl 3 rfl) ?_
      refine lv_iconst (v := nI 3) S.1 S.2.1 dL_law_372 (by decide) ?_
      refine lv_iadd S.1 S.2.1 dL_law_373 ?_
      refine tpi (x' := nI (i + 3)) (nI_add _ _) ?_
      refine va_sld S.1 S.2.1 hX hbl hbA hH.2.1 (vp_in_nI (by omega) (by omega)) dL_law_374 ?_
      refine tpi (x' := xs (i + 3)) (by rw [nI_clamp (by omega)]) ?_
      refine ck_ip (run_V (As := [.int (xs (i + 1)), .int (xs (i + 2)), .int (xs (i + 3))]) (rest := []) S hK hH (kX2_term (s.heap.size) (xs (i + 1)) (xs (i + 2)) (xs (i + 3)) σ hds) ceX2_term mW238 ho1 rfl rfl hl.1 rfl (Nat.le_of_ble_eq_true rfl) dL_law_375 ⟨rfl, rfl, by decide, by decide⟩ ⟨show c0 + 0 ≤ 600000 by omega, show s0 + 0 ≤ 7302250 by omega⟩) hH (fun r375 H locs hp hH => ?_)
      have hr1 : Hid _ := hp
      clear hp
      refine lv_aload_n S.1 S.2.1 dL_law_378 rfl (lv_at hl 2 rfl) ?_
      refine lv_aload_n S.1 S.2.1 dL_law_379 rfl (lv_at hl 0 rfl) ?_
      refine lv_iload_n S.1 S.2.1 dL_law_380 rfl (lv_at hl 3 rfl) ?_
      refine lv_iconst (v := nI 1) S.1 S.2.1 dL_law_381 (by decide) ?_
      refine lv_iadd S.1 S.2.1 dL_law_382 ?_
      refine tpi (x' := nI (i + 1)) (nI_add _ _) ?_
      refine va_sld S.1 S.2.1 hX hbl hbA hH.2.1 (vp_in_nI (by omega) (by omega)) dL_law_383 ?_
      refine tpi (x' := xs (i + 1)) (by rw [nI_clamp (by omega)]) ?_
      refine lv_aload_n S.1 S.2.1 dL_law_384 rfl (lv_at hl 0 rfl) ?_
      refine lv_iload_n S.1 S.2.1 dL_law_385 rfl (lv_at hl 3 rfl) ?_
      refine lv_iconst (v := nI 2) S.1 S.2.1 dL_law_386 (by decide) ?_
      refine lv_iadd S.1 S.2.1 dL_law_387 ?_
      refine tpi (x' := nI (i + 2)) (nI_add _ _) ?_
      refine va_sld S.1 S.2.1 hX hbl hbA hH.2.1 (vp_in_nI (by omega) (by omega)) dL_law_388 ?_
      refine tpi (x' := xs (i + 2)) (by rw [nI_clamp (by omega)]) ?_
      refine lv_aload_n S.1 S.2.1 dL_law_389 rfl (lv_at hl 0 rfl) ?_
      refine lv_iload_n S.1 S.2.1 dL_law_390 rfl (lv_at hl 3 rfl) ?_
      refine lv_iconst (v := nI 3) S.1 S.2.1 dL_law_391 (by decide) ?_
      refine lv_iadd S.1 S.2.1 dL_law_392 ?_
      refine tpi (x' := nI (i + 3)) (nI_add _ _) ?_
      refine va_sld S.1 S.2.1 hX hbl hbA hH.2.1 (vp_in_nI (by omega) (by omega)) dL_law_393 ?_
      refine tpi (x' := xs (i + 3)) (by rw [nI_clamp (by omega)]) ?_
      refine ck_ip (run_V (As := [.int (xs (i + 1)), .int (xs (i + 2)), .int (xs (i + 3))]) (rest := [.int (r375)]) S hK hH (kX3_term (s.heap.size + 23) (xs (i + 1)) (xs (i + 2)) (xs (i + 3)) σ hms) ceX3_term mW432 ho2 rfl rfl hl.1 rfl (Nat.le_of_ble_eq_true rfl) dL_law_394 ⟨rfl, rfl, by decide, by decide⟩ ⟨show c0 + 0 ≤ 600000 by omega, show s0 + 0 ≤ 7302250 by omega⟩) hH (fun r394 H locs hp hH => ?_)
      have hr2 : Hid _ := hp
      clear hp
      refine lv_icmp_eq (tgt := 634) S.1 S.2.1 dL_law_397 (by decide) (fun c397 => ?_) (fun c397 => ?_)
      · skip
        refine lv_iinc (v := nI (i + 6)) (lv' := [(3, .int (nI (i + 6))), (0, .ref (b)), (1, .ref (s.heap.size)), (2, .ref (s.heap.size + 23))]) S.1 S.2.1 dL_law_634 hl (k := 3) rfl (nI_inc _ 6) (by decide) rfl (fun ls hl => ?_)
        refine lv_goto (tgt := 18) S.1 S.2.1 dL_law_637 (by decide) ?_
        exact ih18 _ _ _ _ _ _ (by omega) ⟨i + 6, σ, _, w, lv_sub hl [1, 2, 3, 0] rfl, hH, hds, hms, by omega, by omega, by omega, rfl⟩
      · skip
        exact absurd (hr1.trans hr2.symm) c397
    · skip
      refine lv_tableIn (tgt := 402) (off := 369) S.1 S.2.1 dL_law_33 (by decide) (by decide) (by decide) (by decide) ?_
      refine lv_aload_n S.1 S.2.1 dL_law_402 rfl (lv_at hl 1 rfl) ?_
      refine lv_aload_n S.1 S.2.1 dL_law_403 rfl (lv_at hl 0 rfl) ?_
      refine lv_iload_n S.1 S.2.1 dL_law_404 rfl (lv_at hl 3 rfl) ?_
      refine lv_iconst (v := nI 1) S.1 S.2.1 dL_law_405 (by decide) ?_
      refine lv_iadd S.1 S.2.1 dL_law_406 ?_
      refine tpi (x' := nI (i + 1)) (nI_add _ _) ?_
      refine va_sld S.1 S.2.1 hX hbl hbA hH.2.1 (vp_in_nI (by omega) (by omega)) dL_law_407 ?_
      refine tpi (x' := xs (i + 1)) (by rw [nI_clamp (by omega)]) ?_
      refine lv_aload_n S.1 S.2.1 dL_law_408 rfl (lv_at hl 0 rfl) ?_
      refine lv_iload_n S.1 S.2.1 dL_law_409 rfl (lv_at hl 3 rfl) ?_
      refine lv_iconst (v := nI 2) S.1 S.2.1 dL_law_410 (by decide) ?_
      refine lv_iadd S.1 S.2.1 dL_law_411 ?_
      refine tpi (x' := nI (i + 2)) (nI_add _ _) ?_
      refine va_sld S.1 S.2.1 hX hbl hbA hH.2.1 (vp_in_nI (by omega) (by omega)) dL_law_412 ?_
      refine tpi (x' := xs (i + 2)) (by rw [nI_clamp (by omega)]) ?_
      refine ck_ip (run_V (As := [.int (xs (i + 1)), .int (xs (i + 2))]) (rest := []) S hK hH (kX2_same (s.heap.size) (xs (i + 1)) (xs (i + 2)) σ hds) ceX2_same mW242 ho1 rfl rfl hl.1 rfl (Nat.le_of_ble_eq_true rfl) dL_law_413 ⟨rfl, rfl, by decide, by decide⟩ ⟨show c0 + 0 ≤ 600000 by omega, show s0 + 0 ≤ 7302250 by omega⟩) hH (fun r413 H locs hp hH => ?_)
      have hr1 : Hid _ := hp
      clear hp
      refine lv_aload_n S.1 S.2.1 dL_law_416 rfl (lv_at hl 2 rfl) ?_
      refine lv_aload_n S.1 S.2.1 dL_law_417 rfl (lv_at hl 0 rfl) ?_
      refine lv_iload_n S.1 S.2.1 dL_law_418 rfl (lv_at hl 3 rfl) ?_
      refine lv_iconst (v := nI 1) S.1 S.2.1 dL_law_419 (by decide) ?_
      refine lv_iadd S.1 S.2.1 dL_law_420 ?_
      refine tpi (x' := nI (i + 1)) (nI_add _ _) ?_
      refine va_sld S.1 S.2.1 hX hbl hbA hH.2.1 (vp_in_nI (by omega) (by omega)) dL_law_421 ?_
      refine tpi (x' := xs (i + 1)) (by rw [nI_clamp (by omega)]) ?_
      refine lv_aload_n S.1 S.2.1 dL_law_422 rfl (lv_at hl 0 rfl) ?_
      refine lv_iload_n S.1 S.2.1 dL_law_423 rfl (lv_at hl 3 rfl) ?_
      refine lv_iconst (v := nI 2) S.1 S.2.1 dL_law_424 (by decide) ?_
      refine lv_iadd S.1 S.2.1 dL_law_425 ?_
      refine tpi (x' := nI (i + 2)) (nI_add _ _) ?_
      refine va_sld S.1 S.2.1 hX hbl hbA hH.2.1 (vp_in_nI (by omega) (by omega)) dL_law_426 ?_
      refine tpi (x' := xs (i + 2)) (by rw [nI_clamp (by omega)]) ?_
      refine ck_ip (run_V (As := [.int (xs (i + 1)), .int (xs (i + 2))]) (rest := [.int (r413)]) S hK hH (kX3_same (s.heap.size + 23) (xs (i + 1)) (xs (i + 2)) σ hms) ceX3_same mW436 ho2 rfl rfl hl.1 rfl (Nat.le_of_ble_eq_true rfl) dL_law_427 ⟨rfl, rfl, by decide, by decide⟩ ⟨show c0 + 0 ≤ 600000 by omega, show s0 + 0 ≤ 7302250 by omega⟩) hH (fun r427 H locs hp hH => ?_)
      have hr2 : Hid _ := hp
      clear hp
      refine lv_icmp_eq (tgt := 634) S.1 S.2.1 dL_law_430 (by decide) (fun c430 => ?_) (fun c430 => ?_)
      · skip
        refine lv_iinc (v := nI (i + 6)) (lv' := [(3, .int (nI (i + 6))), (0, .ref (b)), (1, .ref (s.heap.size)), (2, .ref (s.heap.size + 23))]) S.1 S.2.1 dL_law_634 hl (k := 3) rfl (nI_inc _ 6) (by decide) rfl (fun ls hl => ?_)
        refine lv_goto (tgt := 18) S.1 S.2.1 dL_law_637 (by decide) ?_
        exact ih18 _ _ _ _ _ _ (by omega) ⟨i + 6, σ, _, w, lv_sub hl [1, 2, 3, 0] rfl, hH, hds, hms, by omega, by omega, by omega, rfl⟩
      · skip
        exact absurd (hr1.trans hr2.symm) c430
    · skip
      refine lv_tableIn (tgt := 435) (off := 402) S.1 S.2.1 dL_law_33 (by decide) (by decide) (by decide) (by decide) ?_
      refine lv_aload_n S.1 S.2.1 dL_law_435 rfl (lv_at hl 1 rfl) ?_
      refine lv_aload_n S.1 S.2.1 dL_law_436 rfl (lv_at hl 0 rfl) ?_
      refine lv_iload_n S.1 S.2.1 dL_law_437 rfl (lv_at hl 3 rfl) ?_
      refine lv_iconst (v := nI 1) S.1 S.2.1 dL_law_438 (by decide) ?_
      refine lv_iadd S.1 S.2.1 dL_law_439 ?_
      refine tpi (x' := nI (i + 1)) (nI_add _ _) ?_
      refine va_sld S.1 S.2.1 hX hbl hbA hH.2.1 (vp_in_nI (by omega) (by omega)) dL_law_440 ?_
      refine tpi (x' := xs (i + 1)) (by rw [nI_clamp (by omega)]) ?_
      refine lv_aload_n S.1 S.2.1 dL_law_441 rfl (lv_at hl 0 rfl) ?_
      refine lv_iload_n S.1 S.2.1 dL_law_442 rfl (lv_at hl 3 rfl) ?_
      refine lv_iconst (v := nI 2) S.1 S.2.1 dL_law_443 (by decide) ?_
      refine lv_iadd S.1 S.2.1 dL_law_444 ?_
      refine tpi (x' := nI (i + 2)) (nI_add _ _) ?_
      refine va_sld S.1 S.2.1 hX hbl hbA hH.2.1 (vp_in_nI (by omega) (by omega)) dL_law_445 ?_
      refine tpi (x' := xs (i + 2)) (by rw [nI_clamp (by omega)]) ?_
      refine ck_lp (run_V (As := [.int (xs (i + 1)), .int (xs (i + 2))]) (rest := []) S hK hH (kX2_value (s.heap.size) (xs (i + 1)) (xs (i + 2)) σ hds) ceX2_value mW250 ho1 rfl rfl hl.1 rfl (Nat.le_of_ble_eq_true rfl) dL_law_446 ⟨rfl, rfl, by decide, by decide⟩ ⟨show c0 + 0 ≤ 600000 by omega, show s0 + 0 ≤ 7302250 by omega⟩) hH (fun r446 H locs hp hH => ?_)
      have hr1 : Hid _ := hp
      clear hp
      refine lv_aload_n S.1 S.2.1 dL_law_449 rfl (lv_at hl 2 rfl) ?_
      refine lv_aload_n S.1 S.2.1 dL_law_450 rfl (lv_at hl 0 rfl) ?_
      refine lv_iload_n S.1 S.2.1 dL_law_451 rfl (lv_at hl 3 rfl) ?_
      refine lv_iconst (v := nI 1) S.1 S.2.1 dL_law_452 (by decide) ?_
      refine lv_iadd S.1 S.2.1 dL_law_453 ?_
      refine tpi (x' := nI (i + 1)) (nI_add _ _) ?_
      refine va_sld S.1 S.2.1 hX hbl hbA hH.2.1 (vp_in_nI (by omega) (by omega)) dL_law_454 ?_
      refine tpi (x' := xs (i + 1)) (by rw [nI_clamp (by omega)]) ?_
      refine lv_aload_n S.1 S.2.1 dL_law_455 rfl (lv_at hl 0 rfl) ?_
      refine lv_iload_n S.1 S.2.1 dL_law_456 rfl (lv_at hl 3 rfl) ?_
      refine lv_iconst (v := nI 2) S.1 S.2.1 dL_law_457 (by decide) ?_
      refine lv_iadd S.1 S.2.1 dL_law_458 ?_
      refine tpi (x' := nI (i + 2)) (nI_add _ _) ?_
      refine va_sld S.1 S.2.1 hX hbl hbA hH.2.1 (vp_in_nI (by omega) (by omega)) dL_law_459 ?_
      refine tpi (x' := xs (i + 2)) (by rw [nI_clamp (by omega)]) ?_
      refine ck_lp (run_V (As := [.int (xs (i + 1)), .int (xs (i + 2))]) (rest := [.long (r446)]) S hK hH (kX3_value (s.heap.size + 23) (xs (i + 1)) (xs (i + 2)) σ hms) ceX3_value mW444 ho2 rfl rfl hl.1 rfl (Nat.le_of_ble_eq_true rfl) dL_law_460 ⟨rfl, rfl, by decide, by decide⟩ ⟨show c0 + 0 ≤ 600000 by omega, show s0 + 0 ≤ 7302250 by omega⟩) hH (fun r460 H locs hp hH => ?_)
      have hr2 : Hid _ := hp
      clear hp
      refine bl_eq (tgt := 634) S dL_law_463 dL_law_464 (by decide) (fun c463 => ?_) (fun c463 => ?_)
      · skip
        refine lv_iinc (v := nI (i + 6)) (lv' := [(3, .int (nI (i + 6))), (0, .ref (b)), (1, .ref (s.heap.size)), (2, .ref (s.heap.size + 23))]) S.1 S.2.1 dL_law_634 hl (k := 3) rfl (nI_inc _ 6) (by decide) rfl (fun ls hl => ?_)
        refine lv_goto (tgt := 18) S.1 S.2.1 dL_law_637 (by decide) ?_
        exact ih18 _ _ _ _ _ _ (by omega) ⟨i + 6, σ, _, w, lv_sub hl [1, 2, 3, 0] rfl, hH, hds, hms, by omega, by omega, by omega, rfl⟩
      · skip
        exact absurd (hr1.trans hr2.symm) c463
    · skip
      refine lv_tableIn (tgt := 469) (off := 436) S.1 S.2.1 dL_law_33 (by decide) (by decide) (by decide) (by decide) ?_
      refine lv_aload_n S.1 S.2.1 dL_law_469 rfl (lv_at hl 1 rfl) ?_
      refine lv_aload_n S.1 S.2.1 dL_law_470 rfl (lv_at hl 0 rfl) ?_
      refine lv_iload_n S.1 S.2.1 dL_law_471 rfl (lv_at hl 3 rfl) ?_
      refine lv_iconst (v := nI 1) S.1 S.2.1 dL_law_472 (by decide) ?_
      refine lv_iadd S.1 S.2.1 dL_law_473 ?_
      refine tpi (x' := nI (i + 1)) (nI_add _ _) ?_
      refine va_sld S.1 S.2.1 hX hbl hbA hH.2.1 (vp_in_nI (by omega) (by omega)) dL_law_474 ?_
      refine tpi (x' := xs (i + 1)) (by rw [nI_clamp (by omega)]) ?_
      refine ck_i (run_V (As := [.int (xs (i + 1))]) (rest := []) S hK hH (kX2_hypothesis (s.heap.size) (xs (i + 1)) σ hds) ceX2_hypothesis mW259 ho1 rfl rfl hl.1 rfl (Nat.le_of_ble_eq_true rfl) dL_law_475 ⟨rfl, rfl, by decide, by decide⟩ ⟨show c0 + 0 ≤ 600000 by omega, show s0 + 0 ≤ 7302250 by omega⟩) hH (fun r475 w27 n27 H locs hp hH => ?_)
      obtain ⟨hn1, hfr, hr1, hds⟩ := hp
      rw [hn1] at hH
      replace hms := hms.kept (fun b hb => hfr b hb)
      obtain ⟨fs1, ho1⟩ := hds.ob
      obtain ⟨fs2, ho2⟩ := hms.ob
      refine lv_aload_n S.1 S.2.1 dL_law_478 rfl (lv_at hl 2 rfl) ?_
      refine lv_aload_n S.1 S.2.1 dL_law_479 rfl (lv_at hl 0 rfl) ?_
      refine lv_iload_n S.1 S.2.1 dL_law_480 rfl (lv_at hl 3 rfl) ?_
      refine lv_iconst (v := nI 1) S.1 S.2.1 dL_law_481 (by decide) ?_
      refine lv_iadd S.1 S.2.1 dL_law_482 ?_
      refine tpi (x' := nI (i + 1)) (nI_add _ _) ?_
      refine va_sld S.1 S.2.1 hX hbl hbA hH.2.1 (vp_in_nI (by omega) (by omega)) dL_law_483 ?_
      refine tpi (x' := xs (i + 1)) (by rw [nI_clamp (by omega)]) ?_
      refine ck_i (run_V (As := [.int (xs (i + 1))]) (rest := [.int (r475)]) S hK hH (kX3_hypothesis (s.heap.size + 23) (xs (i + 1)) σ hms) ceX3_hypothesis mW448 ho2 rfl rfl hl.1 rfl (Nat.le_of_ble_eq_true rfl) dL_law_484 ⟨rfl, rfl, by decide, by decide⟩ ⟨show c0 + 0 ≤ 600000 by omega, show s0 + 0 ≤ 7302250 by omega⟩) hH (fun r484 w28 n28 H locs hp hH => ?_)
      obtain ⟨hn2, hfr, hr2, hms⟩ := hp
      rw [hn2] at hH
      replace hds := hds.kept (fun b hb => hfr b (by omega))
      refine lv_icmp_eq (tgt := 634) S.1 S.2.1 dL_law_487 (by decide) (fun c487 => ?_) (fun c487 => ?_)
      · skip
        refine lv_iinc (v := nI (i + 6)) (lv' := [(3, .int (nI (i + 6))), (0, .ref (b)), (1, .ref (s.heap.size)), (2, .ref (s.heap.size + 23))]) S.1 S.2.1 dL_law_634 hl (k := 3) rfl (nI_inc _ 6) (by decide) rfl (fun ls hl => ?_)
        refine lv_goto (tgt := 18) S.1 S.2.1 dL_law_637 (by decide) ?_
        exact ih18 _ _ _ _ _ _ (by omega) ⟨i + 6, (sHyp σ (xs (i + 1))).2, _, w28, lv_sub hl [1, 2, 3, 0] rfl, hH, hds, hms, by omega, by omega, by omega, rfl⟩
      · skip
        exact absurd (hr1.trans hr2.symm) c487
    · skip
      refine lv_tableIn (tgt := 492) (off := 459) S.1 S.2.1 dL_law_33 (by decide) (by decide) (by decide) (by decide) ?_
      refine lv_aload_n S.1 S.2.1 dL_law_492 rfl (lv_at hl 1 rfl) ?_
      refine lv_aload_n S.1 S.2.1 dL_law_493 rfl (lv_at hl 0 rfl) ?_
      refine lv_iload_n S.1 S.2.1 dL_law_494 rfl (lv_at hl 3 rfl) ?_
      refine lv_iconst (v := nI 1) S.1 S.2.1 dL_law_495 (by decide) ?_
      refine lv_iadd S.1 S.2.1 dL_law_496 ?_
      refine tpi (x' := nI (i + 1)) (nI_add _ _) ?_
      refine va_sld S.1 S.2.1 hX hbl hbA hH.2.1 (vp_in_nI (by omega) (by omega)) dL_law_497 ?_
      refine tpi (x' := xs (i + 1)) (by rw [nI_clamp (by omega)]) ?_
      refine ck_i (run_V (As := [.int (xs (i + 1))]) (rest := []) S hK hH (kX2_keep (s.heap.size) (xs (i + 1)) σ hds) ceX2_keep mW263 ho1 rfl rfl hl.1 rfl (Nat.le_of_ble_eq_true rfl) dL_law_498 ⟨rfl, rfl, by decide, by decide⟩ ⟨show c0 + 0 ≤ 600000 by omega, show s0 + 0 ≤ 7302250 by omega⟩) hH (fun r498 w29 n29 H locs hp hH => ?_)
      obtain ⟨hn1, hfr, hr1, hds⟩ := hp
      rw [hn1] at hH
      replace hms := hms.kept (fun b hb => hfr b hb)
      obtain ⟨fs1, ho1⟩ := hds.ob
      obtain ⟨fs2, ho2⟩ := hms.ob
      refine lv_aload_n S.1 S.2.1 dL_law_501 rfl (lv_at hl 2 rfl) ?_
      refine lv_aload_n S.1 S.2.1 dL_law_502 rfl (lv_at hl 0 rfl) ?_
      refine lv_iload_n S.1 S.2.1 dL_law_503 rfl (lv_at hl 3 rfl) ?_
      refine lv_iconst (v := nI 1) S.1 S.2.1 dL_law_504 (by decide) ?_
      refine lv_iadd S.1 S.2.1 dL_law_505 ?_
      refine tpi (x' := nI (i + 1)) (nI_add _ _) ?_
      refine va_sld S.1 S.2.1 hX hbl hbA hH.2.1 (vp_in_nI (by omega) (by omega)) dL_law_506 ?_
      refine tpi (x' := xs (i + 1)) (by rw [nI_clamp (by omega)]) ?_
      refine ck_i (run_V (As := [.int (xs (i + 1))]) (rest := [.int (r498)]) S hK hH (kX3_keep (s.heap.size + 23) (xs (i + 1)) σ hms) ceX3_keep mW452 ho2 rfl rfl hl.1 rfl (Nat.le_of_ble_eq_true rfl) dL_law_507 ⟨rfl, rfl, by decide, by decide⟩ ⟨show c0 + 0 ≤ 600000 by omega, show s0 + 0 ≤ 7302250 by omega⟩) hH (fun r507 w30 n30 H locs hp hH => ?_)
      obtain ⟨hn2, hfr, hr2, hms⟩ := hp
      rw [hn2] at hH
      replace hds := hds.kept (fun b hb => hfr b (by omega))
      refine lv_icmp_eq (tgt := 634) S.1 S.2.1 dL_law_510 (by decide) (fun c510 => ?_) (fun c510 => ?_)
      · skip
        refine lv_iinc (v := nI (i + 6)) (lv' := [(3, .int (nI (i + 6))), (0, .ref (b)), (1, .ref (s.heap.size)), (2, .ref (s.heap.size + 23))]) S.1 S.2.1 dL_law_634 hl (k := 3) rfl (nI_inc _ 6) (by decide) rfl (fun ls hl => ?_)
        refine lv_goto (tgt := 18) S.1 S.2.1 dL_law_637 (by decide) ?_
        exact ih18 _ _ _ _ _ _ (by omega) ⟨i + 6, (sKeep σ (xs (i + 1))).2, _, w30, lv_sub hl [1, 2, 3, 0] rfl, hH, hds, hms, by omega, by omega, by omega, rfl⟩
      · skip
        exact absurd (hr1.trans hr2.symm) c510
    · skip
      refine lv_tableIn (tgt := 515) (off := 482) S.1 S.2.1 dL_law_33 (by decide) (by decide) (by decide) (by decide) ?_
      refine lv_aload_n S.1 S.2.1 dL_law_515 rfl (lv_at hl 1 rfl) ?_
      refine lv_aload_n S.1 S.2.1 dL_law_516 rfl (lv_at hl 0 rfl) ?_
      refine lv_iload_n S.1 S.2.1 dL_law_517 rfl (lv_at hl 3 rfl) ?_
      refine lv_iconst (v := nI 1) S.1 S.2.1 dL_law_518 (by decide) ?_
      refine lv_iadd S.1 S.2.1 dL_law_519 ?_
      refine tpi (x' := nI (i + 1)) (nI_add _ _) ?_
      refine va_sld S.1 S.2.1 hX hbl hbA hH.2.1 (vp_in_nI (by omega) (by omega)) dL_law_520 ?_
      refine tpi (x' := xs (i + 1)) (by rw [nI_clamp (by omega)]) ?_
      refine lv_aload_n S.1 S.2.1 dL_law_521 rfl (lv_at hl 0 rfl) ?_
      refine lv_iload_n S.1 S.2.1 dL_law_522 rfl (lv_at hl 3 rfl) ?_
      refine lv_iconst (v := nI 2) S.1 S.2.1 dL_law_523 (by decide) ?_
      refine lv_iadd S.1 S.2.1 dL_law_524 ?_
      refine tpi (x' := nI (i + 2)) (nI_add _ _) ?_
      refine va_sld S.1 S.2.1 hX hbl hbA hH.2.1 (vp_in_nI (by omega) (by omega)) dL_law_525 ?_
      refine tpi (x' := xs (i + 2)) (by rw [nI_clamp (by omega)]) ?_
      refine lv_aload_n S.1 S.2.1 dL_law_526 rfl (lv_at hl 0 rfl) ?_
      refine lv_iload_n S.1 S.2.1 dL_law_527 rfl (lv_at hl 3 rfl) ?_
      refine lv_iconst (v := nI 3) S.1 S.2.1 dL_law_528 (by decide) ?_
      refine lv_iadd S.1 S.2.1 dL_law_529 ?_
      refine tpi (x' := nI (i + 3)) (nI_add _ _) ?_
      refine va_sld S.1 S.2.1 hX hbl hbA hH.2.1 (vp_in_nI (by omega) (by omega)) dL_law_530 ?_
      refine tpi (x' := xs (i + 3)) (by rw [nI_clamp (by omega)]) ?_
      refine lv_aload_n S.1 S.2.1 dL_law_531 rfl (lv_at hl 0 rfl) ?_
      refine lv_iload_n S.1 S.2.1 dL_law_532 rfl (lv_at hl 3 rfl) ?_
      refine lv_iconst (v := nI 4) S.1 S.2.1 dL_law_533 (by decide) ?_
      refine lv_iadd S.1 S.2.1 dL_law_534 ?_
      refine tpi (x' := nI (i + 4)) (nI_add _ _) ?_
      refine va_sld S.1 S.2.1 hX hbl hbA hH.2.1 (vp_in_nI (by omega) (by omega)) dL_law_535 ?_
      refine tpi (x' := xs (i + 4)) (by rw [nI_clamp (by omega)]) ?_
      refine lv_aload_n S.1 S.2.1 dL_law_536 rfl (lv_at hl 0 rfl) ?_
      refine lv_iload_n S.1 S.2.1 dL_law_537 rfl (lv_at hl 3 rfl) ?_
      refine lv_iconst (v := nI 5) S.1 S.2.1 dL_law_538 (by decide) ?_
      refine lv_iadd S.1 S.2.1 dL_law_539 ?_
      refine tpi (x' := nI (i + 5)) (nI_add _ _) ?_
      refine va_sld S.1 S.2.1 hX hbl hbA hH.2.1 (vp_in_nI (by omega) (by omega)) dL_law_540 ?_
      refine tpi (x' := xs (i + 5)) (by rw [nI_clamp (by omega)]) ?_
      refine ck_i (run_V (As := [.int (xs (i + 1)), .int (xs (i + 2)), .int (xs (i + 3)), .int (xs (i + 4)), .int (xs (i + 5))]) (rest := []) S hK hH (kX2_part (s.heap.size) (xs (i + 1)) (xs (i + 2)) (xs (i + 3)) (xs (i + 4)) (xs (i + 5)) σ hds) ceX2_part mW267 ho1 rfl rfl hl.1 rfl (Nat.le_of_ble_eq_true rfl) dL_law_541 ⟨rfl, rfl, by decide, by decide⟩ ⟨show c0 + 0 ≤ 600000 by omega, show s0 + 0 ≤ 7302250 by omega⟩) hH (fun r541 w31 n31 H locs hp hH => ?_)
      obtain ⟨hn1, hfr, hr1, hds⟩ := hp
      rw [hn1] at hH
      replace hms := hms.kept (fun b hb => hfr b hb)
      obtain ⟨fs1, ho1⟩ := hds.ob
      obtain ⟨fs2, ho2⟩ := hms.ob
      refine lv_aload_n S.1 S.2.1 dL_law_544 rfl (lv_at hl 2 rfl) ?_
      refine lv_aload_n S.1 S.2.1 dL_law_545 rfl (lv_at hl 0 rfl) ?_
      refine lv_iload_n S.1 S.2.1 dL_law_546 rfl (lv_at hl 3 rfl) ?_
      refine lv_iconst (v := nI 1) S.1 S.2.1 dL_law_547 (by decide) ?_
      refine lv_iadd S.1 S.2.1 dL_law_548 ?_
      refine tpi (x' := nI (i + 1)) (nI_add _ _) ?_
      refine va_sld S.1 S.2.1 hX hbl hbA hH.2.1 (vp_in_nI (by omega) (by omega)) dL_law_549 ?_
      refine tpi (x' := xs (i + 1)) (by rw [nI_clamp (by omega)]) ?_
      refine lv_aload_n S.1 S.2.1 dL_law_550 rfl (lv_at hl 0 rfl) ?_
      refine lv_iload_n S.1 S.2.1 dL_law_551 rfl (lv_at hl 3 rfl) ?_
      refine lv_iconst (v := nI 2) S.1 S.2.1 dL_law_552 (by decide) ?_
      refine lv_iadd S.1 S.2.1 dL_law_553 ?_
      refine tpi (x' := nI (i + 2)) (nI_add _ _) ?_
      refine va_sld S.1 S.2.1 hX hbl hbA hH.2.1 (vp_in_nI (by omega) (by omega)) dL_law_554 ?_
      refine tpi (x' := xs (i + 2)) (by rw [nI_clamp (by omega)]) ?_
      refine lv_aload_n S.1 S.2.1 dL_law_555 rfl (lv_at hl 0 rfl) ?_
      refine lv_iload_n S.1 S.2.1 dL_law_556 rfl (lv_at hl 3 rfl) ?_
      refine lv_iconst (v := nI 3) S.1 S.2.1 dL_law_557 (by decide) ?_
      refine lv_iadd S.1 S.2.1 dL_law_558 ?_
      refine tpi (x' := nI (i + 3)) (nI_add _ _) ?_
      refine va_sld S.1 S.2.1 hX hbl hbA hH.2.1 (vp_in_nI (by omega) (by omega)) dL_law_559 ?_
      refine tpi (x' := xs (i + 3)) (by rw [nI_clamp (by omega)]) ?_
      refine lv_aload_n S.1 S.2.1 dL_law_560 rfl (lv_at hl 0 rfl) ?_
      refine lv_iload_n S.1 S.2.1 dL_law_561 rfl (lv_at hl 3 rfl) ?_
      refine lv_iconst (v := nI 4) S.1 S.2.1 dL_law_562 (by decide) ?_
      refine lv_iadd S.1 S.2.1 dL_law_563 ?_
      refine tpi (x' := nI (i + 4)) (nI_add _ _) ?_
      refine va_sld S.1 S.2.1 hX hbl hbA hH.2.1 (vp_in_nI (by omega) (by omega)) dL_law_564 ?_
      refine tpi (x' := xs (i + 4)) (by rw [nI_clamp (by omega)]) ?_
      refine lv_aload_n S.1 S.2.1 dL_law_565 rfl (lv_at hl 0 rfl) ?_
      refine lv_iload_n S.1 S.2.1 dL_law_566 rfl (lv_at hl 3 rfl) ?_
      refine lv_iconst (v := nI 5) S.1 S.2.1 dL_law_567 (by decide) ?_
      refine lv_iadd S.1 S.2.1 dL_law_568 ?_
      refine tpi (x' := nI (i + 5)) (nI_add _ _) ?_
      refine va_sld S.1 S.2.1 hX hbl hbA hH.2.1 (vp_in_nI (by omega) (by omega)) dL_law_569 ?_
      refine tpi (x' := xs (i + 5)) (by rw [nI_clamp (by omega)]) ?_
      refine ck_i (run_V (As := [.int (xs (i + 1)), .int (xs (i + 2)), .int (xs (i + 3)), .int (xs (i + 4)), .int (xs (i + 5))]) (rest := [.int (r541)]) S hK hH (kX3_part (s.heap.size + 23) (xs (i + 1)) (xs (i + 2)) (xs (i + 3)) (xs (i + 4)) (xs (i + 5)) σ hms) ceX3_part mW456 ho2 rfl rfl hl.1 rfl (Nat.le_of_ble_eq_true rfl) dL_law_570 ⟨rfl, rfl, by decide, by decide⟩ ⟨show c0 + 0 ≤ 600000 by omega, show s0 + 0 ≤ 7302250 by omega⟩) hH (fun r570 w32 n32 H locs hp hH => ?_)
      obtain ⟨hn2, hfr, hr2, hms⟩ := hp
      rw [hn2] at hH
      replace hds := hds.kept (fun b hb => hfr b (by omega))
      refine lv_icmp_eq (tgt := 634) S.1 S.2.1 dL_law_573 (by decide) (fun c573 => ?_) (fun c573 => ?_)
      · skip
        refine lv_iinc (v := nI (i + 6)) (lv' := [(3, .int (nI (i + 6))), (0, .ref (b)), (1, .ref (s.heap.size)), (2, .ref (s.heap.size + 23))]) S.1 S.2.1 dL_law_634 hl (k := 3) rfl (nI_inc _ 6) (by decide) rfl (fun ls hl => ?_)
        refine lv_goto (tgt := 18) S.1 S.2.1 dL_law_637 (by decide) ?_
        exact ih18 _ _ _ _ _ _ (by omega) ⟨i + 6, (sPart σ (xs (i + 1)) (xs (i + 2)) (xs (i + 3)) (xs (i + 4)) (xs (i + 5))).2, _, w32, lv_sub hl [1, 2, 3, 0] rfl, hH, hds, hms, by omega, by omega, by omega, rfl⟩
      · skip
        exact absurd (hr1.trans hr2.symm) c573
    · skip
      refine lv_tableIn (tgt := 578) (off := 545) S.1 S.2.1 dL_law_33 (by decide) (by decide) (by decide) (by decide) ?_
      refine lv_aload_n S.1 S.2.1 dL_law_578 rfl (lv_at hl 1 rfl) ?_
      refine lv_aload_n S.1 S.2.1 dL_law_579 rfl (lv_at hl 0 rfl) ?_
      refine lv_iload_n S.1 S.2.1 dL_law_580 rfl (lv_at hl 3 rfl) ?_
      refine lv_iconst (v := nI 1) S.1 S.2.1 dL_law_581 (by decide) ?_
      refine lv_iadd S.1 S.2.1 dL_law_582 ?_
      refine tpi (x' := nI (i + 1)) (nI_add _ _) ?_
      refine va_sld S.1 S.2.1 hX hbl hbA hH.2.1 (vp_in_nI (by omega) (by omega)) dL_law_583 ?_
      refine tpi (x' := xs (i + 1)) (by rw [nI_clamp (by omega)]) ?_
      refine lv_aload_n S.1 S.2.1 dL_law_584 rfl (lv_at hl 0 rfl) ?_
      refine lv_iload_n S.1 S.2.1 dL_law_585 rfl (lv_at hl 3 rfl) ?_
      refine lv_iconst (v := nI 2) S.1 S.2.1 dL_law_586 (by decide) ?_
      refine lv_iadd S.1 S.2.1 dL_law_587 ?_
      refine tpi (x' := nI (i + 2)) (nI_add _ _) ?_
      refine va_sld S.1 S.2.1 hX hbl hbA hH.2.1 (vp_in_nI (by omega) (by omega)) dL_law_588 ?_
      refine tpi (x' := xs (i + 2)) (by rw [nI_clamp (by omega)]) ?_
      refine ck_i (run_V (As := [.int (xs (i + 1)), .int (xs (i + 2))]) (rest := []) S hK hH (kX2_show (s.heap.size) (xs (i + 1)) (xs (i + 2)) σ hds) ceX2_show mW271 ho1 rfl rfl hl.1 rfl (Nat.le_of_ble_eq_true rfl) dL_law_589 ⟨rfl, rfl, by decide, by decide⟩ ⟨show c0 + 4 ≤ 600000 by omega, show s0 + 141 ≤ 7302250 by omega⟩) hH (fun r589 w33 n33 H locs hp hH => ?_)
      obtain ⟨hn1, hfr, hr1, hds⟩ := hp
      replace hms := hms.kept (fun b hb => hfr b hb)
      obtain ⟨fs1, ho1⟩ := hds.ob
      obtain ⟨fs2, ho2⟩ := hms.ob
      refine lv_aload_n S.1 S.2.1 dL_law_592 rfl (lv_at hl 2 rfl) ?_
      refine lv_aload_n S.1 S.2.1 dL_law_593 rfl (lv_at hl 0 rfl) ?_
      refine lv_iload_n S.1 S.2.1 dL_law_594 rfl (lv_at hl 3 rfl) ?_
      refine lv_iconst (v := nI 1) S.1 S.2.1 dL_law_595 (by decide) ?_
      refine lv_iadd S.1 S.2.1 dL_law_596 ?_
      refine tpi (x' := nI (i + 1)) (nI_add _ _) ?_
      refine va_sld S.1 S.2.1 hX hbl hbA hH.2.1 (vp_in_nI (by omega) (by omega)) dL_law_597 ?_
      refine tpi (x' := xs (i + 1)) (by rw [nI_clamp (by omega)]) ?_
      refine lv_aload_n S.1 S.2.1 dL_law_598 rfl (lv_at hl 0 rfl) ?_
      refine lv_iload_n S.1 S.2.1 dL_law_599 rfl (lv_at hl 3 rfl) ?_
      refine lv_iconst (v := nI 2) S.1 S.2.1 dL_law_600 (by decide) ?_
      refine lv_iadd S.1 S.2.1 dL_law_601 ?_
      refine tpi (x' := nI (i + 2)) (nI_add _ _) ?_
      refine va_sld S.1 S.2.1 hX hbl hbA hH.2.1 (vp_in_nI (by omega) (by omega)) dL_law_602 ?_
      refine tpi (x' := xs (i + 2)) (by rw [nI_clamp (by omega)]) ?_
      refine ck_i (run_V (As := [.int (xs (i + 1)), .int (xs (i + 2))]) (rest := [.int (r589)]) S hK hH (kX3_show (s.heap.size + 23) (xs (i + 1)) (xs (i + 2)) σ hms) ceX3_show mW461 ho2 rfl rfl hl.1 rfl (Nat.le_of_ble_eq_true rfl) dL_law_603 ⟨rfl, rfl, by decide, by decide⟩ ⟨show (c0 + 4) + 0 ≤ 600000 by omega, show (s0 + 141) + 0 ≤ 7302250 by omega⟩) hH (fun r603 w34 n34 H locs hp hH => ?_)
      obtain ⟨hn2, hfr, hr2, hms⟩ := hp
      rw [hn2] at hH
      replace hds := hds.kept (fun b hb => hfr b (by omega))
      refine lv_icmp_eq (tgt := 634) S.1 S.2.1 dL_law_606 (by decide) (fun c606 => ?_) (fun c606 => ?_)
      · skip
        refine lv_iinc (v := nI (i + 6)) (lv' := [(3, .int (nI (i + 6))), (0, .ref (b)), (1, .ref (s.heap.size)), (2, .ref (s.heap.size + 23))]) S.1 S.2.1 dL_law_634 hl (k := 3) rfl (nI_inc _ 6) (by decide) rfl (fun ls hl => ?_)
        refine lv_goto (tgt := 18) S.1 S.2.1 dL_law_637 (by decide) ?_
        exact ih18 _ _ _ _ _ _ (by omega) ⟨i + 6, (sShow σ (xs (i + 1)) (xs (i + 2))).2, _, w34, lv_sub hl [1, 2, 3, 0] rfl, hH, hds, hms, by omega, by omega, by omega, rfl⟩
      · skip
        exact absurd (hr1.trans hr2.symm) c606
    · skip
      refine lv_tableIn (tgt := 611) (off := 578) S.1 S.2.1 dL_law_33 (by decide) (by decide) (by decide) (by decide) ?_
      refine lv_aload_n S.1 S.2.1 dL_law_611 rfl (lv_at hl 1 rfl) ?_
      refine lv_aload_n S.1 S.2.1 dL_law_612 rfl (lv_at hl 0 rfl) ?_
      refine lv_iload_n S.1 S.2.1 dL_law_613 rfl (lv_at hl 3 rfl) ?_
      refine lv_iconst (v := nI 1) S.1 S.2.1 dL_law_614 (by decide) ?_
      refine lv_iadd S.1 S.2.1 dL_law_615 ?_
      refine tpi (x' := nI (i + 1)) (nI_add _ _) ?_
      refine va_sld S.1 S.2.1 hX hbl hbA hH.2.1 (vp_in_nI (by omega) (by omega)) dL_law_616 ?_
      refine tpi (x' := xs (i + 1)) (by rw [nI_clamp (by omega)]) ?_
      refine ck_ip (run_V (As := [.int (xs (i + 1))]) (rest := []) S hK hH (kX2_count (s.heap.size) (xs (i + 1)) σ hds) ceX2_count mW287 ho1 rfl rfl hl.1 rfl (Nat.le_of_ble_eq_true rfl) dL_law_617 ⟨rfl, rfl, by decide, by decide⟩ ⟨show c0 + 0 ≤ 600000 by omega, show s0 + 0 ≤ 7302250 by omega⟩) hH (fun r617 H locs hp hH => ?_)
      have hr1 : Hid _ := hp
      clear hp
      refine lv_aload_n S.1 S.2.1 dL_law_620 rfl (lv_at hl 2 rfl) ?_
      refine lv_aload_n S.1 S.2.1 dL_law_621 rfl (lv_at hl 0 rfl) ?_
      refine lv_iload_n S.1 S.2.1 dL_law_622 rfl (lv_at hl 3 rfl) ?_
      refine lv_iconst (v := nI 1) S.1 S.2.1 dL_law_623 (by decide) ?_
      refine lv_iadd S.1 S.2.1 dL_law_624 ?_
      refine tpi (x' := nI (i + 1)) (nI_add _ _) ?_
      refine va_sld S.1 S.2.1 hX hbl hbA hH.2.1 (vp_in_nI (by omega) (by omega)) dL_law_625 ?_
      refine tpi (x' := xs (i + 1)) (by rw [nI_clamp (by omega)]) ?_
      refine ck_ip (run_V (As := [.int (xs (i + 1))]) (rest := [.int (r617)]) S hK hH (kX3_count (s.heap.size + 23) (xs (i + 1)) σ hms) ceX3_count mW469 ho2 rfl rfl hl.1 rfl (Nat.le_of_ble_eq_true rfl) dL_law_626 ⟨rfl, rfl, by decide, by decide⟩ ⟨show c0 + 0 ≤ 600000 by omega, show s0 + 0 ≤ 7302250 by omega⟩) hH (fun r626 H locs hp hH => ?_)
      have hr2 : Hid _ := hp
      clear hp
      refine lv_icmp_eq (tgt := 634) S.1 S.2.1 dL_law_629 (by decide) (fun c629 => ?_) (fun c629 => ?_)
      · skip
        refine lv_iinc (v := nI (i + 6)) (lv' := [(3, .int (nI (i + 6))), (0, .ref (b)), (1, .ref (s.heap.size)), (2, .ref (s.heap.size + 23))]) S.1 S.2.1 dL_law_634 hl (k := 3) rfl (nI_inc _ 6) (by decide) rfl (fun ls hl => ?_)
        refine lv_goto (tgt := 18) S.1 S.2.1 dL_law_637 (by decide) ?_
        exact ih18 _ _ _ _ _ _ (by omega) ⟨i + 6, σ, _, w, lv_sub hl [1, 2, 3, 0] rfl, hH, hds, hms, by omega, by omega, by omega, rfl⟩
      · skip
        exact absurd (hr1.trans hr2.symm) c629
    · skip
      refine lv_tableOut (tgt := 634) S.1 S.2.1 dL_law_33 (by decide) (by decide) ?_
      refine lv_iinc (v := nI (i + 6)) (lv' := [(3, .int (nI (i + 6))), (0, .ref (b)), (1, .ref (s.heap.size)), (2, .ref (s.heap.size + 23))]) S.1 S.2.1 dL_law_634 hl (k := 3) rfl (nI_inc _ 6) (by decide) rfl (fun ls hl => ?_)
      refine lv_goto (tgt := 18) S.1 S.2.1 dL_law_637 (by decide) ?_
      exact ih18 _ _ _ _ _ _ (by omega) ⟨i + 6, σ, _, w, lv_sub hl [1, 2, 3, 0] rfl, hH, hds, hms, by omega, by omega, by omega, rfl⟩

