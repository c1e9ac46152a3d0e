abbrev MOb (M : Nat) (hc pc cnt big : Int32) : va_E := eO 3 [.ref (M + 1), .ref (M + 2), .ref (M + 3), .ref (M + 4), .int hc, .int pc, .ref (M + 5), .ref (M + 6), .ref (M + 7), .ref (M + 8), .ref (M + 9), .int cnt, .int big, .ref (M + 10), .ref (M + 11), .ref (M + 12)]
def FarI (g : Int32) (j z : Nat) : Prop := (g = nI 1 ∧ ∃ u, u < j ∧ 9 < bt8 u z) ∨ (g = nI 0 ∧ ∀ u, u < j → bt8 u z ≤ 9)
section FF
variable {g : Int32} {j z : Nat}
theorem far_1 (h : FarI g j z) (hg : g ≠ 0) : ∃ u, u < j ∧ 9 < bt8 u z := by
  rcases h with ⟨_, h⟩ | ⟨e, _⟩
  · exact h
  · exact absurd e hg
theorem far_0 (h : FarI g j z) (hg : g = 0) : ∀ u, u < j → bt8 u z ≤ 9 := by
  rcases h with ⟨e, _⟩ | ⟨_, h⟩
  · rw [e] at hg; exact absurd hg (by decide)
  · exact h
theorem far_s1 (h : ∃ u, u < j ∧ 9 < bt8 u z) : FarI (nI 1) (j + 1) z := by
  obtain ⟨u, h1, h2⟩ := h
  exact Or.inl ⟨rfl, u, by omega, h2⟩
theorem far_s0 (h : ∀ u, u < j → bt8 u z ≤ 9) (h2 : bt8 j z ≤ 9) : FarI (nI 0) (j + 1) z := Or.inr ⟨rfl, lt_s h h2⟩
theorem far_s2 (h2 : 9 < bt8 j z) : FarI (nI 1) (j + 1) z := Or.inl ⟨rfl, j, by omega, h2⟩
theorem far_e (h : FarI g j z) (hj : j = 8) : (g = 1 ∧ ∃ u, u < 8 ∧ 9 < bt8 u z) ∨ (g = 0 ∧ ∀ u, u < 8 → bt8 u z ≤ 9) := by
  subst hj
  exact h
theorem far_b (h : FarI g j z) : g = 0 ∨ g = 1 := by
  rcases h with ⟨e, _⟩ | ⟨e, _⟩
  · exact Or.inr e
  · exact Or.inl e
end FF
theorem sw_eq {f : Nat → Int64} {i j : Nat} : vp_updL (vp_updL f i (f j)) j (f i) = swF f i j := by
  funext x
  unfold vp_updL swF
  by_cases q : x = i
  · rw [if_pos q]
    by_cases r : x = j
    · subst q; subst r; simp
    · rw [if_neg r, if_pos q]
  · rw [if_neg q, if_neg q]

set_option maxHeartbeats 4000000 in
set_option maxRecDepth 100000 in
theorem kX3_begin {l : Launch} {G : Gx} {B : Nat} {w : Wm} {n : Nat} (M : Nat) (hc pc cnt big : Int32) (m0 : w M = some (MOb M hc pc cnt big)) : Met l yX3_begin (wsM yX3_begin cX3_begin 1 none) ({ frames := 0, cells := 0, slots := 0, locals := 0 } : Room) (Pcx G B w n [.ref (M)]) (Qv G B (fun w' n' => n' = n ∧ (∀ b, b ≠ M → w' b = w b) ∧ w' M = some (MOb M hc pc (nI 0) (nI 0)))) 0 0 (FA B) := by
  refine en (by decide) (Nat.le_of_ble_eq_true rfl) ?_
  intro p ev s mm ag bl mt co S hr hlk hnm hK H hH ls hl
  have hl : lv_has ls 1 [(0, .ref (M))] := hl
  have hF : ∀ b, b ≠ M → w b = w b := fun _ _ => rfl
  refine lv_aload_n S.1 S.2.1 dX3_begin_0 rfl (lv_at hl 0 rfl) ?_
  refine lv_iconst (v := nI 0) S.1 S.2.1 dX3_begin_1 (by decide) ?_
  refine pfX3_47 S hK hH m0 dX3_begin_2 (fun w1 H locs m0 fr hH => ?_)
  replace hF : ∀ b, b ≠ M → w1 b = w b := fun b hb => (fr b (by omega)).trans (hF b hb)
  refine lv_aload_n S.1 S.2.1 dX3_begin_5 rfl (lv_at hl 0 rfl) ?_
  refine lv_iconst (v := nI 0) S.1 S.2.1 dX3_begin_6 (by decide) ?_
  refine pfX3_51 S hK hH m0 (by decide) dX3_begin_7 (fun w2 H locs m0 fr hH => ?_)
  replace hF : ∀ b, b ≠ M → w2 b = w b := fun b hb => (fr b (by omega)).trans (hF b hb)
  exact rt_v S hr hlk hH dX3_begin_10 (⟨rfl, hF, m0⟩)

set_option maxHeartbeats 4000000 in
set_option maxRecDepth 100000 in
theorem kX3_add {l : Launch} {G : Gx} {B : Nat} {w : Wm} {n : Nat} (M m : Nat) (k h l1 : Int64) (hc pc big : Int32) (fc fh fl : Nat → Int64) (m0 : w M = some (MOb M hc pc (nI m) big)) (m10 : w (M + 10) = some (eJ G 3700 fc)) (m11 : w (M + 11) = some (eJ G 3700 fh)) (m12 : w (M + 12) = some (eJ G 3700 fl)) (hm : m < 3700) : Met l yX3_add (wsM yX3_add cX3_add 8 none) ({ frames := 0, cells := 0, slots := 0, locals := 0 } : Room) (Pcx G B w n [.ref (M), .long (k), .long (h), .long (l1)]) (Qv G B (fun w' n' => n' = n ∧ (∀ b, (b ≠ M ∧ b ≠ M + 10 ∧ b ≠ M + 11 ∧ b ≠ M + 12) → w' b = w b) ∧ ((∃ i, i < m ∧ fh i = h ∧ fl i = l1 ∧ w' M = some (MOb M hc pc (nI m) big) ∧ w' (M + 10) = some (eJ G 3700 (vp_updL fc i (fc i + k))) ∧ w' (M + 11) = some (eJ G 3700 fh) ∧ w' (M + 12) = some (eJ G 3700 fl)) ∨ ((∀ i, i < m → ¬ (fh i = h ∧ fl i = l1)) ∧ w' M = some (MOb M hc pc (nI (m + 1)) big) ∧ w' (M + 10) = some (eJ G 3700 (vp_updL (vp_updL fc m (lI 0)) m (lI 0 + k))) ∧ w' (M + 11) = some (eJ G 3700 (vp_updL fh m h)) ∧ w' (M + 12) = some (eJ G 3700 (vp_updL fl m l1)))))) 0 0 (FA B) := by
  refine en (by decide) (Nat.le_of_ble_eq_true rfl) ?_
  intro p ev s mm ag bl mt co S hr hlk hnm hK H hH ls hl
  have hl : lv_has ls 8 [(0, .ref (M)), (1, .long (k)), (3, .long (h)), (5, .long (l1))] := hl
  have hF : ∀ b, b ≠ M ∧ b ≠ M + 10 ∧ b ≠ M + 11 ∧ b ≠ M + 12 → w b = w b := fun _ _ => rfl
  refine lv_iconst (v := nI 0) S.1 S.2.1 dX3_add_0 (by decide) ?_
  refine lv_istore (lv' := [(7, .int (nI 0)), (0, .ref (M)), (1, .long (k)), (3, .long (h)), (5, .long (l1))]) S.1 S.2.1 dX3_add_1 hl (by decide) rfl (fun ls hl => ?_)
  refine wlp (P := fun k_ ls H' locs' => ∃ (i : Nat), lv_has ls 8 [(0, .ref (M)), (1, .long (k)), (3, .long (h)), (5, .long (l1)), (7, .int (nI i))] ∧ (H = H' ∧ [] = locs') ∧ (i ≤ m) ∧ (∀ u, u < i → ¬ (fh u = h ∧ fl u = l1)) ∧ k_ = m - i) ?_ (k0 := m - (0)) ⟨0, lv_sub hl [1, 2, 3, 4, 0] rfl, ⟨rfl, rfl⟩, by omega, fun u h => absurd h (Nat.not_lt_zero u), rfl⟩
  intro k3 ls H' locs' hP ih3
  obtain ⟨i, hl, ⟨rfl, rfl⟩, hi, hno, hk3⟩ := hP
  refine lv_iload S.1 S.2.1 dX3_add_3 (lv_at hl 4 rfl) ?_
  refine lv_aload_n S.1 S.2.1 dX3_add_5 rfl (lv_at hl 0 rfl) ?_
  refine gfX3_47 S hK hH m0 dX3_add_6 ?_
  refine bn_ge (tgt := 43) S dX3_add_9 (by decide) (by omega) (fun c9 => ?_) (fun c9 => ?_)
  · skip
    have ei : i = m := by omega
    refine lv_iload S.1 S.2.1 dX3_add_43 (lv_at hl 4 rfl) ?_
    refine lv_aload_n S.1 S.2.1 dX3_add_45 rfl (lv_at hl 0 rfl) ?_
    refine gfX3_47 S hK hH m0 dX3_add_46 ?_
    refine bn_ne (tgt := 87) S dX3_add_49 (by decide) (by omega) (fun c49 => ?_) (fun c49 => ?_)
    · skip
      exfalso; omega
    · skip
      refine lv_aload_n S.1 S.2.1 dX3_add_52 rfl (lv_at hl 0 rfl) ?_
      refine gfX3_38 S hK hH m0 dX3_add_53 ?_
      refine lv_iload S.1 S.2.1 dX3_add_56 (lv_at hl 4 rfl) ?_
      refine lv_lconst (v := lI 0) S.1 S.2.1 dX3_add_58 (by decide) ?_
      refine ast_l S hK hH m10 (by omega) (by omega) dX3_add_59 (fun w1 H locs m10 fr hH => ?_)
      replace m0 := (fr (M) (by omega)).trans m0
      replace m11 := (fr (M + 11) (by omega)).trans m11
      replace m12 := (fr (M + 12) (by omega)).trans m12
      replace hF : ∀ b, b ≠ M ∧ b ≠ M + 10 ∧ b ≠ M + 11 ∧ b ≠ M + 12 → w1 b = w b := fun b hb => (fr b (by omega)).trans (hF b hb)
      refine lv_aload_n S.1 S.2.1 dX3_add_60 rfl (lv_at hl 0 rfl) ?_
      refine gfX3_41 S hK hH m0 dX3_add_61 ?_
      refine lv_iload S.1 S.2.1 dX3_add_64 (lv_at hl 4 rfl) ?_
      refine lv_lload_n S.1 S.2.1 dX3_add_66 rfl (lv_at hl 2 rfl) ?_
      refine ast_l S hK hH m11 (by omega) (by omega) dX3_add_67 (fun w2 H locs m11 fr hH => ?_)
      replace m0 := (fr (M) (by omega)).trans m0
      replace m10 := (fr (M + 10) (by omega)).trans m10
      replace m12 := (fr (M + 12) (by omega)).trans m12
      replace hF : ∀ b, b ≠ M ∧ b ≠ M + 10 ∧ b ≠ M + 11 ∧ b ≠ M + 12 → w2 b = w b := fun b hb => (fr b (by omega)).trans (hF b hb)
      refine lv_aload_n S.1 S.2.1 dX3_add_68 rfl (lv_at hl 0 rfl) ?_
      refine gfX3_44 S hK hH m0 dX3_add_69 ?_
      refine lv_iload S.1 S.2.1 dX3_add_72 (lv_at hl 4 rfl) ?_
      refine lv_lload S.1 S.2.1 dX3_add_74 (lv_at hl 3 rfl) ?_
      refine ast_l S hK hH m12 (by omega) (by omega) dX3_add_76 (fun w3 H locs m12 fr hH => ?_)
      replace m0 := (fr (M) (by omega)).trans m0
      replace m10 := (fr (M + 10) (by omega)).trans m10
      replace m11 := (fr (M + 11) (by omega)).trans m11
      replace hF : ∀ b, b ≠ M ∧ b ≠ M + 10 ∧ b ≠ M + 11 ∧ b ≠ M + 12 → w3 b = w b := fun b hb => (fr b (by omega)).trans (hF b hb)
      refine lv_aload_n S.1 S.2.1 dX3_add_77 rfl (lv_at hl 0 rfl) ?_
      refine lv_dup S.1 S.2.1 dX3_add_78 rfl ?_
      refine gfX3_47 S hK hH m0 dX3_add_79 ?_
      refine lv_iconst (v := nI 1) S.1 S.2.1 dX3_add_82 (by decide) ?_
      refine lv_iadd S.1 S.2.1 dX3_add_83 ?_
      refine tpi (x' := nI (m + 1)) (nI_add _ _) ?_
      refine pfX3_47 S hK hH m0 dX3_add_84 (fun w4 H locs m0 fr hH => ?_)
      replace m10 := (fr (M + 10) (by omega)).trans m10
      replace m11 := (fr (M + 11) (by omega)).trans m11
      replace m12 := (fr (M + 12) (by omega)).trans m12
      replace hF : ∀ b, b ≠ M ∧ b ≠ M + 10 ∧ b ≠ M + 11 ∧ b ≠ M + 12 → w4 b = w b := fun b hb => (fr b (by omega)).trans (hF b hb)
      refine lv_aload_n S.1 S.2.1 dX3_add_87 rfl (lv_at hl 0 rfl) ?_
      refine gfX3_38 S hK hH m0 dX3_add_88 ?_
      refine lv_iload S.1 S.2.1 dX3_add_91 (lv_at hl 4 rfl) ?_
      refine lv_dup2_11 S.1 S.2.1 dX3_add_93 rfl rfl ?_
      refine ald_l S hK hH m10 (by omega) (by omega) dX3_add_94 ?_
      refine lv_lload_n S.1 S.2.1 dX3_add_95 rfl (lv_at hl 1 rfl) ?_
      refine lv_ladd S.1 S.2.1 dX3_add_96 ?_
      refine ast_l S hK hH m10 (by omega) (by omega) dX3_add_97 (fun w5 H locs m10 fr hH => ?_)
      replace m0 := (fr (M) (by omega)).trans m0
      replace m11 := (fr (M + 11) (by omega)).trans m11
      replace m12 := (fr (M + 12) (by omega)).trans m12
      replace hF : ∀ b, b ≠ M ∧ b ≠ M + 10 ∧ b ≠ M + 11 ∧ b ≠ M + 12 → w5 b = w b := fun b hb => (fr b (by omega)).trans (hF b hb)
      rw [pk_uLs, ei] at m10
      rw [ei] at m11 m12
      exact rt_v S hr hlk hH dX3_add_98 (⟨rfl, hF, Or.inr ⟨fun u hu => hno u (by omega), m0, m10, m11, m12⟩⟩)
  · skip
    refine lv_aload_n S.1 S.2.1 dX3_add_12 rfl (lv_at hl 0 rfl) ?_
    refine gfX3_41 S hK hH m0 dX3_add_13 ?_
    refine lv_iload S.1 S.2.1 dX3_add_16 (lv_at hl 4 rfl) ?_
    refine ald_l S hK hH m11 (by omega) (by omega) dX3_add_18 ?_
    refine lv_lload_n S.1 S.2.1 dX3_add_19 rfl (lv_at hl 2 rfl) ?_
    refine bl_ne (tgt := 37) S dX3_add_20 dX3_add_21 (by decide) (fun c20 => ?_) (fun c20 => ?_)
    · skip
      refine lv_iinc (v := nI (i + 1)) (lv' := [(7, .int (nI (i + 1))), (0, .ref (M)), (1, .long (k)), (3, .long (h)), (5, .long (l1))]) S.1 S.2.1 dX3_add_37 hl (k := 4) rfl (nI_inc _ 1) (by decide) rfl (fun ls hl => ?_)
      refine lv_goto (tgt := 3) S.1 S.2.1 dX3_add_40 (by decide) ?_
      exact ih3 _ _ _ _ (by omega) ⟨i + 1, lv_sub hl [1, 2, 3, 4, 0] rfl, ⟨rfl, rfl⟩, by omega, lt_s hno (fun e => c20 e.1), rfl⟩
    · skip
      refine lv_aload_n S.1 S.2.1 dX3_add_24 rfl (lv_at hl 0 rfl) ?_
      refine gfX3_44 S hK hH m0 dX3_add_25 ?_
      refine lv_iload S.1 S.2.1 dX3_add_28 (lv_at hl 4 rfl) ?_
      refine ald_l S hK hH m12 (by omega) (by omega) dX3_add_30 ?_
      refine lv_lload S.1 S.2.1 dX3_add_31 (lv_at hl 3 rfl) ?_
      refine bl_eq (tgt := 43) S dX3_add_33 dX3_add_34 (by decide) (fun c33 => ?_) (fun c33 => ?_)
      · skip
        refine lv_iload S.1 S.2.1 dX3_add_43 (lv_at hl 4 rfl) ?_
        refine lv_aload_n S.1 S.2.1 dX3_add_45 rfl (lv_at hl 0 rfl) ?_
        refine gfX3_47 S hK hH m0 dX3_add_46 ?_
        refine bn_ne (tgt := 87) S dX3_add_49 (by decide) (by omega) (fun c49 => ?_) (fun c49 => ?_)
        · skip
          refine lv_aload_n S.1 S.2.1 dX3_add_87 rfl (lv_at hl 0 rfl) ?_
          refine gfX3_38 S hK hH m0 dX3_add_88 ?_
          refine lv_iload S.1 S.2.1 dX3_add_91 (lv_at hl 4 rfl) ?_
          refine lv_dup2_11 S.1 S.2.1 dX3_add_93 rfl rfl ?_
          refine ald_l S hK hH m10 (by omega) (by omega) dX3_add_94 ?_
          refine lv_lload_n S.1 S.2.1 dX3_add_95 rfl (lv_at hl 1 rfl) ?_
          refine lv_ladd S.1 S.2.1 dX3_add_96 ?_
          refine ast_l S hK hH m10 (by omega) (by omega) dX3_add_97 (fun w6 H locs m10 fr hH => ?_)
          replace m0 := (fr (M) (by omega)).trans m0
          replace m11 := (fr (M + 11) (by omega)).trans m11
          replace m12 := (fr (M + 12) (by omega)).trans m12
          replace hF : ∀ b, b ≠ M ∧ b ≠ M + 10 ∧ b ≠ M + 11 ∧ b ≠ M + 12 → w6 b = w b := fun b hb => (fr b (by omega)).trans (hF b hb)
          exact rt_v S hr hlk hH dX3_add_98 (⟨rfl, hF, Or.inl ⟨i, c9, c20, c33, m0, m10, m11, m12⟩⟩)
        · skip
          exfalso; omega
      · skip
        refine lv_iinc (v := nI (i + 1)) (lv' := [(7, .int (nI (i + 1))), (0, .ref (M)), (1, .long (k)), (3, .long (h)), (5, .long (l1))]) S.1 S.2.1 dX3_add_37 hl (k := 4) rfl (nI_inc _ 1) (by decide) rfl (fun ls hl => ?_)
        refine lv_goto (tgt := 3) S.1 S.2.1 dX3_add_40 (by decide) ?_
        exact ih3 _ _ _ _ (by omega) ⟨i + 1, lv_sub hl [1, 2, 3, 4, 0] rfl, ⟨rfl, rfl⟩, by omega, lt_s hno (fun e => c33 e.2), rfl⟩

set_option maxHeartbeats 4000000 in
set_option maxRecDepth 100000 in
theorem kX3_isFar {l : Launch} {G : Gx} {B : Nat} {w : Wm} {n : Nat} (z : Nat) (hz : z < 2 ^ 63) : Met l yX3_isFar (wsM yX3_isFar cX3_isFar 4 (some .boolean)) ({ frames := 0, cells := 0, slots := 0, locals := 0 } : Room) (Pcx G B w n [.long (lN z)]) (Qi G B (fun r w' n' => w' = w ∧ n' = n ∧ ((r = 1 ∧ ∃ u, u < 8 ∧ 9 < bt8 u z) ∨ (r = 0 ∧ ∀ u, u < 8 → bt8 u z ≤ 9)))) 0 0 (FA B) := by
  refine en (by decide) (Nat.le_of_ble_eq_true rfl) ?_
  intro p ev s mm ag bl mt co S hr hlk hnm hK H hH ls hl
  have hl : lv_has ls 4 [(0, .long (lN z))] := hl
  refine lv_iconst (v := nI 0) S.1 S.2.1 dX3_isFar_0 (by decide) ?_
  refine lv_istore_n (lv' := [(2, .int (nI 0)), (0, .long (lN z))]) S.1 S.2.1 dX3_isFar_1 rfl hl (by decide) rfl (fun ls hl => ?_)
  refine lv_iconst (v := nI 0) S.1 S.2.1 dX3_isFar_2 (by decide) ?_
  refine lv_istore_n (lv' := [(3, .int (nI 0)), (2, .int (nI 0)), (0, .long (lN z))]) S.1 S.2.1 dX3_isFar_3 rfl hl (by decide) rfl (fun ls hl => ?_)
  refine wlp (P := fun k_ ls H' locs' => ∃ (j : Nat) (g : Int32), lv_has ls 4 [(0, .long (lN z)), (2, .int (g)), (3, .int (nI (8 * j)))] ∧ (H = H' ∧ [] = locs') ∧ (j ≤ 8) ∧ (FarI g j z) ∧ k_ = 8 - j) ?_ (k0 := 8 - (0)) ⟨0, nI 0, lv_sub hl [2, 1, 0] rfl, ⟨rfl, rfl⟩, by omega, Or.inr ⟨rfl, fun u h => absurd h (Nat.not_lt_zero u)⟩, rfl⟩
  intro k4 ls H' locs' hP ih4
  obtain ⟨j, g, hl, ⟨rfl, rfl⟩, hj, hg, hk4⟩ := hP
  refine lv_iload_n S.1 S.2.1 dX3_isFar_4 rfl (lv_at hl 2 rfl) ?_
  refine lv_bipush (v := nI 64) S.1 S.2.1 dX3_isFar_5 (by decide) ?_
  refine bn_ge (tgt := 40) S dX3_isFar_7 (by decide) (by omega) (fun c7 => ?_) (fun c7 => ?_)
  · skip
    refine lv_iload_n S.1 S.2.1 dX3_isFar_40 rfl (lv_at hl 1 rfl) ?_
    exact rt_z S hr hlk hH dX3_isFar_41 (far_b hg) (⟨rfl, rfl, far_e hg (by omega)⟩)
  · skip
    have hj8 : j < 8 := by omega
    refine lv_iload_n S.1 S.2.1 dX3_isFar_10 rfl (lv_at hl 1 rfl) ?_
    refine lv_if_ne (tgt := 28) S.1 S.2.1 dX3_isFar_11 (by decide) (fun c11 => ?_) (fun c11 => ?_)
    · skip
      have hg2 := far_1 hg c11
      refine lv_iconst (v := nI 1) S.1 S.2.1 dX3_isFar_28 (by decide) ?_
      refine lv_goto (tgt := 33) S.1 S.2.1 dX3_isFar_29 (by decide) ?_
      refine lv_istore_n (lv' := [(2, .int (nI 1)), (0, .long (lN z)), (3, .int (nI (8 * j)))]) S.1 S.2.1 dX3_isFar_33 rfl hl (by decide) rfl (fun ls hl => ?_)
      refine lv_iinc (v := nI (8 * j + 8)) (lv' := [(3, .int (nI (8 * j + 8))), (2, .int (nI 1)), (0, .long (lN z))]) S.1 S.2.1 dX3_isFar_34 hl (k := 2) rfl (nI_inc _ 8) (by decide) rfl (fun ls hl => ?_)
      refine lv_goto (tgt := 4) S.1 S.2.1 dX3_isFar_37 (by decide) ?_
      exact ih4 _ _ _ _ (by omega) ⟨j + 1, nI 1, lv_sub hl [2, 1, 0] rfl, ⟨rfl, rfl⟩, by omega, far_s1 hg2, rfl⟩
    · skip
      have hg2 := far_0 hg c11
      refine lv_lload_n S.1 S.2.1 dX3_isFar_14 rfl (lv_at hl 0 rfl) ?_
      refine lv_iload_n S.1 S.2.1 dX3_isFar_15 rfl (lv_at hl 2 rfl) ?_
      refine lv_lushr (v := lN (z / 256 ^ j)) S.1 S.2.1 dX3_isFar_16 (bt_sh hz hj8) ?_
      refine lv_ldc2 S.1 S.2.1 S.2.2.2.1 (S.2.2.2.2 _ mW382) dX3_isFar_17 ?_
      refine tpl (x' := lI 255) (by decide) ?_
      refine lv_land S.1 S.2.1 dX3_isFar_20 ?_
      refine tpl (x' := lN (bt8 j z)) (bt_mk hz) ?_
      have hbt : bt8 j z < 256 := Nat.mod_lt _ (by decide)
      refine lv_ldc2 S.1 S.2.1 S.2.2.2.1 (S.2.2.2.2 _ mW415) dX3_isFar_21 ?_
      refine tpl (x' := lI 9) (by decide) ?_
      refine tpl (x' := lN 9) (rfl) ?_
      refine bl_le (tgt := 32) S dX3_isFar_24 dX3_isFar_25 (by decide) (fun c24 => ?_) (fun c24 => ?_)
      · skip
        have c24 : bt8 j z ≤ 9 := (pk_lLE (by omega) (by omega)).mp c24
        refine lv_iconst (v := nI 0) S.1 S.2.1 dX3_isFar_32 (by decide) ?_
        refine lv_istore_n (lv' := [(2, .int (nI 0)), (0, .long (lN z)), (3, .int (nI (8 * j)))]) S.1 S.2.1 dX3_isFar_33 rfl hl (by decide) rfl (fun ls hl => ?_)
        refine lv_iinc (v := nI (8 * j + 8)) (lv' := [(3, .int (nI (8 * j + 8))), (2, .int (nI 0)), (0, .long (lN z))]) S.1 S.2.1 dX3_isFar_34 hl (k := 2) rfl (nI_inc _ 8) (by decide) rfl (fun ls hl => ?_)
        refine lv_goto (tgt := 4) S.1 S.2.1 dX3_isFar_37 (by decide) ?_
        exact ih4 _ _ _ _ (by omega) ⟨j + 1, nI 0, lv_sub hl [2, 1, 0] rfl, ⟨rfl, rfl⟩, by omega, far_s0 hg2 c24, rfl⟩
      · skip
        have c24 : 9 < bt8 j z := Nat.lt_of_not_le (fun e => c24 ((pk_lLE (by omega) (by omega)).mpr e))
        refine lv_iconst (v := nI 1) S.1 S.2.1 dX3_isFar_28 (by decide) ?_
        refine lv_goto (tgt := 33) S.1 S.2.1 dX3_isFar_29 (by decide) ?_
        refine lv_istore_n (lv' := [(2, .int (nI 1)), (0, .long (lN z)), (3, .int (nI (8 * j)))]) S.1 S.2.1 dX3_isFar_33 rfl hl (by decide) rfl (fun ls hl => ?_)
        refine lv_iinc (v := nI (8 * j + 8)) (lv' := [(3, .int (nI (8 * j + 8))), (2, .int (nI 1)), (0, .long (lN z))]) S.1 S.2.1 dX3_isFar_34 hl (k := 2) rfl (nI_inc _ 8) (by decide) rfl (fun ls hl => ?_)
        refine lv_goto (tgt := 4) S.1 S.2.1 dX3_isFar_37 (by decide) ?_
        exact ih4 _ _ _ _ (by omega) ⟨j + 1, nI 1, lv_sub hl [2, 1, 0] rfl, ⟨rfl, rfl⟩, by omega, far_s2 c24, rfl⟩

set_option maxHeartbeats 4000000 in
set_option maxRecDepth 100000 in
theorem kX3_degree {l : Launch} {G : Gx} {B : Nat} {w : Wm} {n : Nat} (h l1 : Nat) (hh : h < 2 ^ 63) (hl1 : l1 < 2 ^ 63) : Met l yX3_degree (wsM yX3_degree cX3_degree 6 (some .int)) ({ frames := 0, cells := 0, slots := 0, locals := 0 } : Room) (Pcx G B w n [.long (lN h), .long (lN l1)]) (Qi G B (fun r w' n' => w' = w ∧ n' = n ∧ r = nI (bsm h l1 8))) 0 0 (FA B) := by
  refine en (by decide) (Nat.le_of_ble_eq_true rfl) ?_
  intro p ev s mm ag bl mt co S hr hlk hnm hK H hH ls hl
  have hl : lv_has ls 6 [(0, .long (lN h)), (2, .long (lN l1))] := hl
  refine lv_iconst (v := nI 0) S.1 S.2.1 dX3_degree_0 (by decide) ?_
  refine lv_istore (lv' := [(4, .int (nI (bsm h l1 0))), (0, .long (lN h)), (2, .long (lN l1))]) S.1 S.2.1 dX3_degree_1 hl (by decide) rfl (fun ls hl => ?_)
  refine lv_iconst (v := nI 0) S.1 S.2.1 dX3_degree_3 (by decide) ?_
  refine lv_istore (lv' := [(5, .int (nI 0)), (4, .int (nI (bsm h l1 0))), (0, .long (lN h)), (2, .long (lN l1))]) S.1 S.2.1 dX3_degree_4 hl (by decide) rfl (fun ls hl => ?_)
  refine wlp (P := fun k_ ls H' locs' => ∃ (j : Nat), lv_has ls 6 [(0, .long (lN h)), (2, .long (lN l1)), (4, .int (nI (bsm h l1 j))), (5, .int (nI (8 * j)))] ∧ (H = H' ∧ [] = locs') ∧ (j ≤ 8) ∧ k_ = 8 - j) ?_ (k0 := 8 - (0)) ⟨0, lv_sub hl [2, 3, 1, 0] rfl, ⟨rfl, rfl⟩, by omega, rfl⟩
  intro k6 ls H' locs' hP ih6
  obtain ⟨j, hl, ⟨rfl, rfl⟩, hj, hk6⟩ := hP
  refine lv_iload S.1 S.2.1 dX3_degree_6 (lv_at hl 3 rfl) ?_
  refine lv_bipush (v := nI 64) S.1 S.2.1 dX3_degree_8 (by decide) ?_
  refine bn_ge (tgt := 43) S dX3_degree_10 (by decide) (by omega) (fun c10 => ?_) (fun c10 => ?_)
  · skip
    refine lv_iload S.1 S.2.1 dX3_degree_43 (lv_at hl 2 rfl) ?_
    exact rt_i S hr hlk hH dX3_degree_45 (⟨rfl, rfl, by rw [show j = 8 by omega]⟩)
  · skip
    have hj8 : j < 8 := by omega
    refine lv_iload S.1 S.2.1 dX3_degree_13 (lv_at hl 2 rfl) ?_
    refine lv_lload_n S.1 S.2.1 dX3_degree_15 rfl (lv_at hl 0 rfl) ?_
    refine lv_iload S.1 S.2.1 dX3_degree_16 (lv_at hl 3 rfl) ?_
    refine lv_lushr (v := lN (h / 256 ^ j)) S.1 S.2.1 dX3_degree_18 (bt_sh hh hj8) ?_
    refine lv_ldc2 S.1 S.2.1 S.2.2.2.1 (S.2.2.2.2 _ mW382) dX3_degree_19 ?_
    refine tpl (x' := lI 255) (by decide) ?_
    refine lv_land S.1 S.2.1 dX3_degree_22 ?_
    refine tpl (x' := lN (bt8 j h)) (bt_mk hh) ?_
    refine lv_l2i (v := nI (bt8 j h)) S.1 S.2.1 dX3_degree_23 (lN_i _) ?_
    refine lv_lload_n S.1 S.2.1 dX3_degree_24 rfl (lv_at hl 1 rfl) ?_
    refine lv_iload S.1 S.2.1 dX3_degree_25 (lv_at hl 3 rfl) ?_
    refine lv_lushr (v := lN (l1 / 256 ^ j)) S.1 S.2.1 dX3_degree_27 (bt_sh hl1 hj8) ?_
    refine lv_ldc2 S.1 S.2.1 S.2.2.2.1 (S.2.2.2.2 _ mW382) dX3_degree_28 ?_
    refine tpl (x' := lI 255) (by decide) ?_
    refine lv_land S.1 S.2.1 dX3_degree_31 ?_
    refine tpl (x' := lN (bt8 j l1)) (bt_mk hl1) ?_
    refine lv_l2i (v := nI (bt8 j l1)) S.1 S.2.1 dX3_degree_32 (lN_i _) ?_
    refine lv_iadd S.1 S.2.1 dX3_degree_33 ?_
    refine tpi (x' := nI (bt8 j h + bt8 j l1)) (nI_add _ _) ?_
    refine lv_iadd S.1 S.2.1 dX3_degree_34 ?_
    refine tpi (x' := nI (bsm h l1 (j + 1))) (nI_add _ _) ?_
    refine lv_istore (lv' := [(4, .int (nI (bsm h l1 (j + 1)))), (0, .long (lN h)), (2, .long (lN l1)), (5, .int (nI (8 * j)))]) S.1 S.2.1 dX3_degree_35 hl (by decide) rfl (fun ls hl => ?_)
    refine lv_iinc (v := nI (8 * j + 8)) (lv' := [(5, .int (nI (8 * j + 8))), (4, .int (nI (bsm h l1 (j + 1)))), (0, .long (lN h)), (2, .long (lN l1))]) S.1 S.2.1 dX3_degree_37 hl (k := 3) rfl (nI_inc _ 8) (by decide) rfl (fun ls hl => ?_)
    refine lv_goto (tgt := 6) S.1 S.2.1 dX3_degree_40 (by decide) ?_
    exact ih6 _ _ _ _ (by omega) ⟨j + 1, lv_sub hl [2, 3, 1, 0] rfl, ⟨rfl, rfl⟩, by omega, rfl⟩

set_option maxHeartbeats 4000000 in
set_option maxRecDepth 100000 in
theorem kX3_isAhead {l : Launch} {G : Gx} {B : Nat} {w : Wm} {n : Nat} (M i j a b : Nat) (hc pc cnt big : Int32) (fc fh fl : Nat → Int64) (m0 : w M = some (MOb M hc pc cnt big)) (m10 : w (M + 10) = some (eJ G 3700 fc)) (m11 : w (M + 11) = some (eJ G 3700 fh)) (m12 : w (M + 12) = some (eJ G 3700 fl)) (hi : i < 3700) (hj : j < 3700) (ha : vC a) (hb : vC b) (ai : fh i = lN (hiC a) ∧ fl i = lN (loC a)) (bj : fh j = lN (hiC b) ∧ fl j = lN (loC b)) : Met l yX3_isAhead (wsM yX3_isAhead cX3_isAhead 5 (some .boolean)) ({ frames := 1, cells := 0, slots := 0, locals := 25 } : Room) (Pcx G B w n [.ref (M), .int (nI i), .int (nI j)]) (Qi G B (fun r w' n' => w' = w ∧ n' = n ∧ ((r = 1 ∧ b < a) ∨ (r = 0 ∧ ¬ b < a)))) 0 0 (FA B) := by
  refine en (by decide) (Nat.le_of_ble_eq_true rfl) ?_
  intro p ev s mm ag bl mt co S hr hlk hnm hK H hH ls hl
  have hl : lv_has ls 5 [(0, .ref (M)), (1, .int (nI i)), (2, .int (nI j))] := hl
  have b1 : hiC a < 800000000000000000 := cv8_lt _
  have b2 : loC a < 800000000000000000 := cv8_lt _
  have b3 : hiC b < 800000000000000000 := cv8_lt _
  have b4 : loC b < 800000000000000000 := cv8_lt _
  have b5 := bsm_le (hiC a) (loC a) 8
  have b6 := bsm_le (hiC b) (loC b) 8
  have ho := vC_ord ha hb
  refine lv_aload_n S.1 S.2.1 dX3_isAhead_0 rfl (lv_at hl 0 rfl) ?_
  refine gfX3_41 S hK hH m0 dX3_isAhead_1 ?_
  refine lv_iload_n S.1 S.2.1 dX3_isAhead_4 rfl (lv_at hl 1 rfl) ?_
  refine ald_l S hK hH m11 (by omega) (by omega) dX3_isAhead_5 ?_
  refine tpl (x' := lN (hiC a)) (ai.1) ?_
  refine lv_aload_n S.1 S.2.1 dX3_isAhead_6 rfl (lv_at hl 0 rfl) ?_
  refine gfX3_44 S hK hH m0 dX3_isAhead_7 ?_
  refine lv_iload_n S.1 S.2.1 dX3_isAhead_10 rfl (lv_at hl 1 rfl) ?_
  refine ald_l S hK hH m12 (by omega) (by omega) dX3_isAhead_11 ?_
  refine tpl (x' := lN (loC a)) (ai.2) ?_
  refine ck_ip (run_S (As := [.long (lN (hiC a)), .long (lN (loC a))]) (rest := []) S hK hH (kX3_degree (hiC a) (loC a) (by omega) (by omega)) ceX3_degree mW379 rfl hl.1 rfl (Nat.le_of_ble_eq_true rfl) dX3_isAhead_12 ⟨rfl, rfl, by decide, by decide⟩ ⟨show 0 + 0 ≤ 0 by omega, show 0 + 0 ≤ 0 by omega⟩) hH (fun r12 H locs hp hH => ?_)
  obtain rfl := hp
  refine lv_istore_n (lv' := [(3, .int (nI (bsm (hiC a) (loC a) 8))), (0, .ref (M)), (1, .int (nI i)), (2, .int (nI j))]) S.1 S.2.1 dX3_isAhead_15 rfl hl (by decide) rfl (fun ls hl => ?_)
  refine lv_aload_n S.1 S.2.1 dX3_isAhead_16 rfl (lv_at hl 1 rfl) ?_
  refine gfX3_41 S hK hH m0 dX3_isAhead_17 ?_
  refine lv_iload_n S.1 S.2.1 dX3_isAhead_20 rfl (lv_at hl 3 rfl) ?_
  refine ald_l S hK hH m11 (by omega) (by omega) dX3_isAhead_21 ?_
  refine tpl (x' := lN (hiC b)) (bj.1) ?_
  refine lv_aload_n S.1 S.2.1 dX3_isAhead_22 rfl (lv_at hl 1 rfl) ?_
  refine gfX3_44 S hK hH m0 dX3_isAhead_23 ?_
  refine lv_iload_n S.1 S.2.1 dX3_isAhead_26 rfl (lv_at hl 3 rfl) ?_
  refine ald_l S hK hH m12 (by omega) (by omega) dX3_isAhead_27 ?_
  refine tpl (x' := lN (loC b)) (bj.2) ?_
  refine ck_ip (run_S (As := [.long (lN (hiC b)), .long (lN (loC b))]) (rest := []) S hK hH (kX3_degree (hiC b) (loC b) (by omega) (by omega)) ceX3_degree mW379 rfl hl.1 rfl (Nat.le_of_ble_eq_true rfl) dX3_isAhead_28 ⟨rfl, rfl, by decide, by decide⟩ ⟨show 0 + 0 ≤ 0 by omega, show 0 + 0 ≤ 0 by omega⟩) hH (fun r28 H locs hp hH => ?_)
  obtain rfl := hp
  refine lv_istore (lv' := [(4, .int (nI (bsm (hiC b) (loC b) 8))), (3, .int (nI (bsm (hiC a) (loC a) 8))), (0, .ref (M)), (1, .int (nI i)), (2, .int (nI j))]) S.1 S.2.1 dX3_isAhead_31 hl (by decide) rfl (fun ls hl => ?_)
  refine lv_iload_n S.1 S.2.1 dX3_isAhead_33 rfl (lv_at hl 1 rfl) ?_
  refine lv_iload S.1 S.2.1 dX3_isAhead_34 (lv_at hl 0 rfl) ?_
  refine bn_eq (tgt := 51) S dX3_isAhead_36 (by decide) (by omega) (fun c36 => ?_) (fun c36 => ?_)
  · skip
    refine lv_aload_n S.1 S.2.1 dX3_isAhead_51 rfl (lv_at hl 2 rfl) ?_
    refine gfX3_41 S hK hH m0 dX3_isAhead_52 ?_
    refine lv_iload_n S.1 S.2.1 dX3_isAhead_55 rfl (lv_at hl 3 rfl) ?_
    refine ald_l S hK hH m11 (by omega) (by omega) dX3_isAhead_56 ?_
    refine tpl (x' := lN (hiC a)) (ai.1) ?_
    refine lv_aload_n S.1 S.2.1 dX3_isAhead_57 rfl (lv_at hl 2 rfl) ?_
    refine gfX3_41 S hK hH m0 dX3_isAhead_58 ?_
    refine lv_iload_n S.1 S.2.1 dX3_isAhead_61 rfl (lv_at hl 4 rfl) ?_
    refine ald_l S hK hH m11 (by omega) (by omega) dX3_isAhead_62 ?_
    refine tpl (x' := lN (hiC b)) (bj.1) ?_
    refine bl_eq (tgt := 91) S dX3_isAhead_63 dX3_isAhead_64 (by decide) (fun c63 => ?_) (fun c63 => ?_)
    · skip
      have c63 : hiC a = hiC b := (pk_lEQ (by omega) (by omega)).mp c63
      refine lv_aload_n S.1 S.2.1 dX3_isAhead_91 rfl (lv_at hl 2 rfl) ?_
      refine gfX3_44 S hK hH m0 dX3_isAhead_92 ?_
      refine lv_iload_n S.1 S.2.1 dX3_isAhead_95 rfl (lv_at hl 3 rfl) ?_
      refine ald_l S hK hH m12 (by omega) (by omega) dX3_isAhead_96 ?_
      refine tpl (x' := lN (loC a)) (ai.2) ?_
      refine lv_aload_n S.1 S.2.1 dX3_isAhead_97 rfl (lv_at hl 2 rfl) ?_
      refine gfX3_44 S hK hH m0 dX3_isAhead_98 ?_
      refine lv_iload_n S.1 S.2.1 dX3_isAhead_101 rfl (lv_at hl 4 rfl) ?_
      refine ald_l S hK hH m12 (by omega) (by omega) dX3_isAhead_102 ?_
      refine tpl (x' := lN (loC b)) (bj.2) ?_
      refine bl_le (tgt := 111) S dX3_isAhead_103 dX3_isAhead_104 (by decide) (fun c103 => ?_) (fun c103 => ?_)
      · skip
        have c103 : loC a ≤ loC b := (pk_lLE (by omega) (by omega)).mp c103
        refine lv_iconst (v := nI 0) S.1 S.2.1 dX3_isAhead_111 (by decide) ?_
        exact rt_z S hr hlk hH dX3_isAhead_112 (by decide) (⟨rfl, rfl, Or.inr ⟨rfl, by omega⟩⟩)
      · skip
        have c103 : ¬ loC a ≤ loC b := fun e => c103 ((pk_lLE (by omega) (by omega)).mpr e)
        refine lv_iconst (v := nI 1) S.1 S.2.1 dX3_isAhead_107 (by decide) ?_
        refine lv_goto (tgt := 112) S.1 S.2.1 dX3_isAhead_108 (by decide) ?_
        exact rt_z S hr hlk hH dX3_isAhead_112 (by decide) (⟨rfl, rfl, Or.inl ⟨rfl, by omega⟩⟩)
    · skip
      have c63 : hiC a ≠ hiC b := fun e => c63 (by rw [e])
      refine lv_aload_n S.1 S.2.1 dX3_isAhead_67 rfl (lv_at hl 2 rfl) ?_
      refine gfX3_41 S hK hH m0 dX3_isAhead_68 ?_
      refine lv_iload_n S.1 S.2.1 dX3_isAhead_71 rfl (lv_at hl 3 rfl) ?_
      refine ald_l S hK hH m11 (by omega) (by omega) dX3_isAhead_72 ?_
      refine tpl (x' := lN (hiC a)) (ai.1) ?_
      refine lv_aload_n S.1 S.2.1 dX3_isAhead_73 rfl (lv_at hl 2 rfl) ?_
      refine gfX3_41 S hK hH m0 dX3_isAhead_74 ?_
      refine lv_iload_n S.1 S.2.1 dX3_isAhead_77 rfl (lv_at hl 4 rfl) ?_
      refine ald_l S hK hH m11 (by omega) (by omega) dX3_isAhead_78 ?_
      refine tpl (x' := lN (hiC b)) (bj.1) ?_
      refine bl_le (tgt := 87) S dX3_isAhead_79 dX3_isAhead_80 (by decide) (fun c79 => ?_) (fun c79 => ?_)
      · skip
        have c79 : hiC a ≤ hiC b := (pk_lLE (by omega) (by omega)).mp c79
        refine lv_iconst (v := nI 0) S.1 S.2.1 dX3_isAhead_87 (by decide) ?_
        refine lv_goto (tgt := 112) S.1 S.2.1 dX3_isAhead_88 (by decide) ?_
        exact rt_z S hr hlk hH dX3_isAhead_112 (by decide) (⟨rfl, rfl, Or.inr ⟨rfl, by omega⟩⟩)
      · skip
        have c79 : ¬ hiC a ≤ hiC b := fun e => c79 ((pk_lLE (by omega) (by omega)).mpr e)
        refine lv_iconst (v := nI 1) S.1 S.2.1 dX3_isAhead_83 (by decide) ?_
        refine lv_goto (tgt := 112) S.1 S.2.1 dX3_isAhead_84 (by decide) ?_
        exact rt_z S hr hlk hH dX3_isAhead_112 (by decide) (⟨rfl, rfl, Or.inl ⟨rfl, by omega⟩⟩)
  · skip
    refine lv_iload_n S.1 S.2.1 dX3_isAhead_39 rfl (lv_at hl 1 rfl) ?_
    refine lv_iload S.1 S.2.1 dX3_isAhead_40 (lv_at hl 0 rfl) ?_
    refine bn_le (tgt := 49) S dX3_isAhead_42 (by decide) (by omega) (fun c42 => ?_) (fun c42 => ?_)
    · skip
      refine lv_iconst (v := nI 0) S.1 S.2.1 dX3_isAhead_49 (by decide) ?_
      exact rt_z S hr hlk hH dX3_isAhead_50 (by decide) (⟨rfl, rfl, Or.inr ⟨rfl, by omega⟩⟩)
    · skip
      refine lv_iconst (v := nI 1) S.1 S.2.1 dX3_isAhead_45 (by decide) ?_
      refine lv_goto (tgt := 50) S.1 S.2.1 dX3_isAhead_46 (by decide) ?_
      exact rt_z S hr hlk hH dX3_isAhead_50 (by decide) (⟨rfl, rfl, Or.inl ⟨rfl, by omega⟩⟩)

set_option maxHeartbeats 4000000 in
set_option maxRecDepth 100000 in
theorem kX3_swap {l : Launch} {G : Gx} {B : Nat} {w : Wm} {n : Nat} (M i j : Nat) (hc pc cnt big : Int32) (fc fh fl : Nat → Int64) (m0 : w M = some (MOb M hc pc cnt big)) (m10 : w (M + 10) = some (eJ G 3700 fc)) (m11 : w (M + 11) = some (eJ G 3700 fh)) (m12 : w (M + 12) = some (eJ G 3700 fl)) (hi : i < 3700) (hj : j < 3700) : Met l yX3_swap (wsM yX3_swap cX3_swap 5 none) ({ frames := 0, cells := 0, slots := 0, locals := 0 } : Room) (Pcx G B w n [.ref (M), .int (nI i), .int (nI j)]) (Qv G B (fun w' n' => n' = n ∧ (∀ b, (b ≠ M + 10 ∧ b ≠ M + 11 ∧ b ≠ M + 12) → w' b = w b) ∧ w' (M + 10) = some (eJ G 3700 (swF fc i j)) ∧ w' (M + 11) = some (eJ G 3700 (swF fh i j)) ∧ w' (M + 12) = some (eJ G 3700 (swF fl i j)))) 0 0 (FA B) := by
  refine en (by decide) (Nat.le_of_ble_eq_true rfl) ?_
  intro p ev s mm ag bl mt co S hr hlk hnm hK H hH ls hl
  have hl : lv_has ls 5 [(0, .ref (M)), (1, .int (nI i)), (2, .int (nI j))] := hl
  have hF : ∀ b, b ≠ M + 10 ∧ b ≠ M + 11 ∧ b ≠ M + 12 → w b = w b := fun _ _ => rfl
  refine lv_aload_n S.1 S.2.1 dX3_swap_0 rfl (lv_at hl 0 rfl) ?_
  refine gfX3_38 S hK hH m0 dX3_swap_1 ?_
  refine lv_iload_n S.1 S.2.1 dX3_swap_4 rfl (lv_at hl 1 rfl) ?_
  refine ald_l S hK hH m10 (by omega) (by omega) dX3_swap_5 ?_
  refine lv_lstore_n (lv' := [(3, .long (fc (i))), (0, .ref (M)), (1, .int (nI i)), (2, .int (nI j))]) S.1 S.2.1 dX3_swap_6 rfl hl (by decide) rfl (fun ls hl => ?_)
  refine lv_aload_n S.1 S.2.1 dX3_swap_7 rfl (lv_at hl 1 rfl) ?_
  refine gfX3_38 S hK hH m0 dX3_swap_8 ?_
  refine lv_iload_n S.1 S.2.1 dX3_swap_11 rfl (lv_at hl 2 rfl) ?_
  refine lv_aload_n S.1 S.2.1 dX3_swap_12 rfl (lv_at hl 1 rfl) ?_
  refine gfX3_38 S hK hH m0 dX3_swap_13 ?_
  refine lv_iload_n S.1 S.2.1 dX3_swap_16 rfl (lv_at hl 3 rfl) ?_
  refine ald_l S hK hH m10 (by omega) (by omega) dX3_swap_17 ?_
  refine ast_l S hK hH m10 (by omega) (by omega) dX3_swap_18 (fun w1 H locs m10 fr hH => ?_)
  replace m0 := (fr (M) (by omega)).trans m0
  replace m11 := (fr (M + 11) (by omega)).trans m11
  replace m12 := (fr (M + 12) (by omega)).trans m12
  replace hF : ∀ b, b ≠ M + 10 ∧ b ≠ M + 11 ∧ b ≠ M + 12 → w1 b = w b := fun b hb => (fr b (by omega)).trans (hF b hb)
  refine lv_aload_n S.1 S.2.1 dX3_swap_19 rfl (lv_at hl 1 rfl) ?_
  refine gfX3_38 S hK hH m0 dX3_swap_20 ?_
  refine lv_iload_n S.1 S.2.1 dX3_swap_23 rfl (lv_at hl 3 rfl) ?_
  refine lv_lload_n S.1 S.2.1 dX3_swap_24 rfl (lv_at hl 0 rfl) ?_
  refine ast_l S hK hH m10 (by omega) (by omega) dX3_swap_25 (fun w2 H locs m10 fr hH => ?_)
  replace m0 := (fr (M) (by omega)).trans m0
  replace m11 := (fr (M + 11) (by omega)).trans m11
  replace m12 := (fr (M + 12) (by omega)).trans m12
  replace hF : ∀ b, b ≠ M + 10 ∧ b ≠ M + 11 ∧ b ≠ M + 12 → w2 b = w b := fun b hb => (fr b (by omega)).trans (hF b hb)
  refine lv_aload_n S.1 S.2.1 dX3_swap_26 rfl (lv_at hl 1 rfl) ?_
  refine gfX3_41 S hK hH m0 dX3_swap_27 ?_
  refine lv_iload_n S.1 S.2.1 dX3_swap_30 rfl (lv_at hl 2 rfl) ?_
  refine ald_l S hK hH m11 (by omega) (by omega) dX3_swap_31 ?_
  refine lv_lstore_n (lv' := [(3, .long (fh (i))), (0, .ref (M)), (1, .int (nI i)), (2, .int (nI j))]) S.1 S.2.1 dX3_swap_32 rfl hl (by decide) rfl (fun ls hl => ?_)
  refine lv_aload_n S.1 S.2.1 dX3_swap_33 rfl (lv_at hl 1 rfl) ?_
  refine gfX3_41 S hK hH m0 dX3_swap_34 ?_
  refine lv_iload_n S.1 S.2.1 dX3_swap_37 rfl (lv_at hl 2 rfl) ?_
  refine lv_aload_n S.1 S.2.1 dX3_swap_38 rfl (lv_at hl 1 rfl) ?_
  refine gfX3_41 S hK hH m0 dX3_swap_39 ?_
  refine lv_iload_n S.1 S.2.1 dX3_swap_42 rfl (lv_at hl 3 rfl) ?_
  refine ald_l S hK hH m11 (by omega) (by omega) dX3_swap_43 ?_
  refine ast_l S hK hH m11 (by omega) (by omega) dX3_swap_44 (fun w3 H locs m11 fr hH => ?_)
  replace m0 := (fr (M) (by omega)).trans m0
  replace m10 := (fr (M + 10) (by omega)).trans m10
  replace m12 := (fr (M + 12) (by omega)).trans m12
  replace hF : ∀ b, b ≠ M + 10 ∧ b ≠ M + 11 ∧ b ≠ M + 12 → w3 b = w b := fun b hb => (fr b (by omega)).trans (hF b hb)
  refine lv_aload_n S.1 S.2.1 dX3_swap_45 rfl (lv_at hl 1 rfl) ?_
  refine gfX3_41 S hK hH m0 dX3_swap_46 ?_
  refine lv_iload_n S.1 S.2.1 dX3_swap_49 rfl (lv_at hl 3 rfl) ?_
  refine lv_lload_n S.1 S.2.1 dX3_swap_50 rfl (lv_at hl 0 rfl) ?_
  refine ast_l S hK hH m11 (by omega) (by omega) dX3_swap_51 (fun w4 H locs m11 fr hH => ?_)
  replace m0 := (fr (M) (by omega)).trans m0
  replace m10 := (fr (M + 10) (by omega)).trans m10
  replace m12 := (fr (M + 12) (by omega)).trans m12
  replace hF : ∀ b, b ≠ M + 10 ∧ b ≠ M + 11 ∧ b ≠ M + 12 → w4 b = w b := fun b hb => (fr b (by omega)).trans (hF b hb)
  refine lv_aload_n S.1 S.2.1 dX3_swap_52 rfl (lv_at hl 1 rfl) ?_
  refine gfX3_44 S hK hH m0 dX3_swap_53 ?_
  refine lv_iload_n S.1 S.2.1 dX3_swap_56 rfl (lv_at hl 2 rfl) ?_
  refine ald_l S hK hH m12 (by omega) (by omega) dX3_swap_57 ?_
  refine lv_lstore_n (lv' := [(3, .long (fl (i))), (0, .ref (M)), (1, .int (nI i)), (2, .int (nI j))]) S.1 S.2.1 dX3_swap_58 rfl hl (by decide) rfl (fun ls hl => ?_)
  refine lv_aload_n S.1 S.2.1 dX3_swap_59 rfl (lv_at hl 1 rfl) ?_
  refine gfX3_44 S hK hH m0 dX3_swap_60 ?_
  refine lv_iload_n S.1 S.2.1 dX3_swap_63 rfl (lv_at hl 2 rfl) ?_
  refine lv_aload_n S.1 S.2.1 dX3_swap_64 rfl (lv_at hl 1 rfl) ?_
  refine gfX3_44 S hK hH m0 dX3_swap_65 ?_
  refine lv_iload_n S.1 S.2.1 dX3_swap_68 rfl (lv_at hl 3 rfl) ?_
  refine ald_l S hK hH m12 (by omega) (by omega) dX3_swap_69 ?_
  refine ast_l S hK hH m12 (by omega) (by omega) dX3_swap_70 (fun w5 H locs m12 fr hH => ?_)
  replace m0 := (fr (M) (by omega)).trans m0
  replace m10 := (fr (M + 10) (by omega)).trans m10
  replace m11 := (fr (M + 11) (by omega)).trans m11
  replace hF : ∀ b, b ≠ M + 10 ∧ b ≠ M + 11 ∧ b ≠ M + 12 → w5 b = w b := fun b hb => (fr b (by omega)).trans (hF b hb)
  refine lv_aload_n S.1 S.2.1 dX3_swap_71 rfl (lv_at hl 1 rfl) ?_
  refine gfX3_44 S hK hH m0 dX3_swap_72 ?_
  refine lv_iload_n S.1 S.2.1 dX3_swap_75 rfl (lv_at hl 3 rfl) ?_
  refine lv_lload_n S.1 S.2.1 dX3_swap_76 rfl (lv_at hl 0 rfl) ?_
  refine ast_l S hK hH m12 (by omega) (by omega) dX3_swap_77 (fun w6 H locs m12 fr hH => ?_)
  replace m0 := (fr (M) (by omega)).trans m0
  replace m10 := (fr (M + 10) (by omega)).trans m10
  replace m11 := (fr (M + 11) (by omega)).trans m11
  replace hF : ∀ b, b ≠ M + 10 ∧ b ≠ M + 11 ∧ b ≠ M + 12 → w6 b = w b := fun b hb => (fr b (by omega)).trans (hF b hb)
  exact rt_v S hr hlk hH dX3_swap_78 (⟨rfl, hF, by rw [← sw_eq]; exact m10, by rw [← sw_eq]; exact m11, by rw [← sw_eq]; exact m12⟩)

set_option maxHeartbeats 4000000 in
set_option maxRecDepth 100000 in
theorem kX3_is {l : Launch} {G : Gx} {B : Nat} {w : Wm} {n : Nat} (x : Int32) : Met l yX3_is (wsM yX3_is cX3_is 1 (some .boolean)) ({ frames := 0, cells := 0, slots := 0, locals := 0 } : Room) (Pcx G B w n [.int (x)]) (Qi G B (fun r w' n' => w' = w ∧ n' = n ∧ ((r = 1 ∧ ∃ j, j < 16 ∧ x = nI j) ∨ (r = 0 ∧ ¬ ∃ j, j < 16 ∧ x = nI j)))) 0 0 (FA B) := by
  refine en (by decide) (Nat.le_of_ble_eq_true rfl) ?_
  intro p ev s mm ag bl mt co S hr hlk hnm hK H hH ls hl
  have hl : lv_has ls 1 [(0, .int (x))] := hl
  refine lv_iload_n S.1 S.2.1 dX3_is_0 rfl (lv_at hl 0 rfl) ?_
  refine lv_if_lt (tgt := 14) S.1 S.2.1 dX3_is_1 (by decide) (fun c1 => ?_) (fun c1 => ?_)
  · skip
    refine lv_iconst (v := nI 0) S.1 S.2.1 dX3_is_14 (by decide) ?_
    exact rt_z S hr hlk hH dX3_is_15 (by decide) (⟨rfl, rfl, Or.inr ⟨rfl, ix_neg c1 (by omega)⟩⟩)
  · skip
    refine lv_iload_n S.1 S.2.1 dX3_is_4 rfl (lv_at hl 0 rfl) ?_
    refine lv_bipush (v := nI 16) S.1 S.2.1 dX3_is_5 (by decide) ?_
    refine lv_icmp_ge (tgt := 14) S.1 S.2.1 dX3_is_7 (by decide) (fun c7 => ?_) (fun c7 => ?_)
    · skip
      refine lv_iconst (v := nI 0) S.1 S.2.1 dX3_is_14 (by decide) ?_
      exact rt_z S hr hlk hH dX3_is_15 (by decide) (⟨rfl, rfl, Or.inr ⟨rfl, ix_big c7 (by omega)⟩⟩)
    · skip
      refine lv_iconst (v := nI 1) S.1 S.2.1 dX3_is_10 (by decide) ?_
      refine lv_goto (tgt := 15) S.1 S.2.1 dX3_is_11 (by decide) ?_
      exact rt_z S hr hlk hH dX3_is_15 (by decide) (⟨rfl, rfl, Or.inl ⟨rfl, ix_in c1 c7 (by omega)⟩⟩)

