theorem up_snoc_l {L : PL} {c : Nat} {k : Int} {f : Nat → Int64} (h : ∀ j, j < L.length → f j = lN (cd L j)) : ∀ j, j < (L ++ [(c, k)]).length → vp_updL f L.length (lN c) j = lN (cd (L ++ [(c, k)]) j) := by
  intro j hj
  rw [List.length_append] at hj
  by_cases q : j = L.length
  · subst q; rw [cd_last]; simp [vp_updL]
  · have hj' : j < L.length := by simp at hj; omega
    rw [cd_lt hj', ← h j hj']; simp [vp_updL, q]
theorem up_snoc_i {L : PL} {c : Nat} {k : Int} {g : Nat → Int32} (h : ∀ j, j < L.length → g j = iI (cf L j)) : ∀ j, j < (L ++ [(c, k)]).length → upd g L.length (iI k) j = iI (cf (L ++ [(c, k)]) j) := by
  intro j hj
  rw [List.length_append] at hj
  by_cases q : j = L.length
  · subst q; rw [cf_last]; simp [upd]
  · have hj' : j < L.length := by simp at hj; omega
    rw [cf_lt hj', ← h j hj']; simp [upd, q]

set_option maxHeartbeats 4000000 in
set_option maxRecDepth 100000 in
theorem kX1_clear {l : Launch} {G : Gx} {B : Nat} {w : Wm} {n : Nat} (a cap : Nat) (L : PL) (tk : Int32) (tp : Nat → Int32) (hp : PolyC G w a cap L tk tp) : Met l yX1_clear (wsM yX1_clear cX1_clear 1 none) ({ frames := 0, cells := 0, slots := 0, locals := 0 } : Room) (Pcx G B w n [.ref (a)]) (Qv G B (fun w' n' => n' = n ∧ (∀ b, b ≠ a → w' b = w b) ∧ PolyC G w' a cap [] 0 tp)) 0 0 (FA B) := by
  refine en (by decide) (Nat.le_of_ble_eq_true rfl) ?_
  intro p ev s mm ag bl mt co S hr hlk hnm hK H hH ls hl
  have hl : lv_has ls 1 [(0, .ref (a))] := hl
  obtain ⟨f, g, h0, h1, h2, h3, h4, h5, h6, h7, h8⟩ := hp
  have hF : ∀ b, b ≠ a → w b = w b := fun _ _ => rfl
  refine lv_aload_n S.1 S.2.1 dX1_clear_0 rfl (lv_at hl 0 rfl) ?_
  refine lv_iconst (v := nI 0) S.1 S.2.1 dX1_clear_1 (by decide) ?_
  refine pfX1_28 S hK hH h0 dX1_clear_2 (fun w1 H locs h0 fr hH => ?_)
  replace h1 := (fr (a + 1) (by omega)).trans h1
  replace h2 := (fr (a + 2) (by omega)).trans h2
  replace h3 := (fr (a + 3) (by omega)).trans h3
  replace hF : ∀ b, b ≠ a → w1 b = w b := fun b hb => (fr b (by omega)).trans (hF b hb)
  refine lv_aload_n S.1 S.2.1 dX1_clear_5 rfl (lv_at hl 0 rfl) ?_
  refine lv_iconst (v := nI 0) S.1 S.2.1 dX1_clear_6 (by decide) ?_
  refine pfX1_35 S hK hH h0 (by decide) dX1_clear_7 (fun w2 H locs h0 fr hH => ?_)
  replace h1 := (fr (a + 1) (by omega)).trans h1
  replace h2 := (fr (a + 2) (by omega)).trans h2
  replace h3 := (fr (a + 3) (by omega)).trans h3
  replace hF : ∀ b, b ≠ a → w2 b = w b := fun b hb => (fr b (by omega)).trans (hF b hb)
  exact rt_v S hr hlk hH dX1_clear_10 (⟨rfl, hF, f, g, h0, h1, h2, h3, Nat.zero_le _, h5, fun j h => absurd h (Nat.not_lt_zero j), fun j h => absurd h (Nat.not_lt_zero j), Or.inl rfl⟩)

set_option maxHeartbeats 4000000 in
set_option maxRecDepth 100000 in
theorem kX1_append {l : Launch} {G : Gx} {B : Nat} {w : Wm} {n : Nat} (a cap c : Nat) (L : PL) (k : Int) (tk : Int32) (tp : Nat → Int32) (hp : PolyC G w a cap L tk tp) (hk : -4611686018427387904 ≤ k ∧ k < 4611686018427387904) : Met l yX1_append (wsM yX1_append cX1_append 5 (some .boolean)) ({ frames := 0, cells := 0, slots := 0, locals := 0 } : Room) (Pcx G B w n [.ref (a), .long (lN c), .long (lI k)]) (Qi G B (fun r w' n' => n' = n ∧ (∀ b, (b < a ∨ a + 3 ≤ b) → w' b = w b) ∧ ((r = 1 ∧ ∃ L', app cap L c k = some L' ∧ PolyC G w' a cap L' tk tp) ∨ (r = 0 ∧ app cap L c k = none ∧ w' = w)))) 0 0 (FA B) := by
  refine en (by decide) (Nat.le_of_ble_eq_true rfl) ?_
  intro p ev s mm ag bl mt co S hr hlk hnm hK H hH ls hl
  have hl : lv_has ls 5 [(0, .ref (a)), (1, .long (lN c)), (3, .long (lI k))] := hl
  obtain ⟨f, g, h0, h1, h2, h3, h4, h5, h6, h7, h8⟩ := hp
  have hF : ∀ b, b < a ∨ a + 3 ≤ b → w b = w b := fun _ _ => rfl
  refine lv_lload_n S.1 S.2.1 dX1_append_0 rfl (lv_at hl 2 rfl) ?_
  refine lv_lconst (v := lI 0) S.1 S.2.1 dX1_append_1 (by decide) ?_
  refine bl_ne (tgt := 8) S dX1_append_2 dX1_append_3 (by decide) (fun c2 => ?_) (fun c2 => ?_)
  · skip
    have c2 : k ≠ 0 := fun q => c2 ((lI_eq (by omega) (by omega)).mpr q)
    refine lv_lload_n S.1 S.2.1 dX1_append_8 rfl (lv_at hl 2 rfl) ?_
    refine lv_ldc2 S.1 S.2.1 S.2.2.2.1 (S.2.2.2.2 _ mW118) dX1_append_9 ?_
    refine tpl (x' := lI 99999999) (by decide) ?_
    refine bl_gt (tgt := 36) S dX1_append_12 dX1_append_13 (by decide) (fun c12 => ?_) (fun c12 => ?_)
    · skip
      have c12 : 99999999 < k := (lI_lt (by omega) (by omega)).mp c12
      refine lv_iconst (v := nI 0) S.1 S.2.1 dX1_append_36 (by decide) ?_
      exact rt_z S hr hlk hH dX1_append_37 (by decide) (⟨rfl, hF, Or.inr ⟨rfl, by simp [app, c2, c12], rfl⟩⟩)
    · skip
      have c12 : ¬ 99999999 < k := fun q => c12 ((lI_lt (by omega) (by omega)).mpr q)
      refine lv_lload_n S.1 S.2.1 dX1_append_16 rfl (lv_at hl 2 rfl) ?_
      refine lv_ldc2 S.1 S.2.1 S.2.2.2.1 (S.2.2.2.2 _ mW119) dX1_append_17 ?_
      refine tpl (x' := lI (-99999999)) (by decide) ?_
      refine bl_lt (tgt := 36) S dX1_append_20 dX1_append_21 (by decide) (fun c20 => ?_) (fun c20 => ?_)
      · skip
        have c20 : k < -99999999 := (lI_lt (by omega) (by omega)).mp c20
        refine lv_iconst (v := nI 0) S.1 S.2.1 dX1_append_36 (by decide) ?_
        exact rt_z S hr hlk hH dX1_append_37 (by decide) (⟨rfl, hF, Or.inr ⟨rfl, by simp [app, c2, c20], rfl⟩⟩)
      · skip
        have c20 : ¬ k < -99999999 := fun q => c20 ((lI_lt (by omega) (by omega)).mpr q)
        refine lv_aload_n S.1 S.2.1 dX1_append_24 rfl (lv_at hl 0 rfl) ?_
        refine gfX1_28 S hK hH h0 dX1_append_25 ?_
        refine lv_aload_n S.1 S.2.1 dX1_append_28 rfl (lv_at hl 0 rfl) ?_
        refine gfX1_18 S hK hH h0 dX1_append_29 ?_
        refine aln_l S hK hH h1 dX1_append_32 ?_
        refine bn_lt (tgt := 38) S dX1_append_33 (by decide) (by omega) (fun c33 => ?_) (fun c33 => ?_)
        · skip
          refine lv_aload_n S.1 S.2.1 dX1_append_38 rfl (lv_at hl 0 rfl) ?_
          refine gfX1_18 S hK hH h0 dX1_append_39 ?_
          refine lv_aload_n S.1 S.2.1 dX1_append_42 rfl (lv_at hl 0 rfl) ?_
          refine gfX1_28 S hK hH h0 dX1_append_43 ?_
          refine lv_lload_n S.1 S.2.1 dX1_append_46 rfl (lv_at hl 1 rfl) ?_
          refine ast_l S hK hH h1 (by omega) (by omega) dX1_append_47 (fun w1 H locs h1 fr hH => ?_)
          replace h0 := (fr (a) (by omega)).trans h0
          replace h2 := (fr (a + 2) (by omega)).trans h2
          replace h3 := (fr (a + 3) (by omega)).trans h3
          replace hF : ∀ b, b < a ∨ a + 3 ≤ b → w1 b = w b := fun b hb => (fr b (by omega)).trans (hF b hb)
          refine lv_aload_n S.1 S.2.1 dX1_append_48 rfl (lv_at hl 0 rfl) ?_
          refine gfX1_24 S hK hH h0 dX1_append_49 ?_
          refine lv_aload_n S.1 S.2.1 dX1_append_52 rfl (lv_at hl 0 rfl) ?_
          refine gfX1_28 S hK hH h0 dX1_append_53 ?_
          refine lv_lload_n S.1 S.2.1 dX1_append_56 rfl (lv_at hl 2 rfl) ?_
          refine lv_l2i (v := iI (k)) S.1 S.2.1 dX1_append_57 (lI_i _) ?_
          refine ast_i S hK hH h2 (by omega) (by omega) dX1_append_58 (fun w2 H locs h2 fr hH => ?_)
          replace h0 := (fr (a) (by omega)).trans h0
          replace h1 := (fr (a + 1) (by omega)).trans h1
          replace h3 := (fr (a + 3) (by omega)).trans h3
          replace hF : ∀ b, b < a ∨ a + 3 ≤ b → w2 b = w b := fun b hb => (fr b (by omega)).trans (hF b hb)
          refine lv_aload_n S.1 S.2.1 dX1_append_59 rfl (lv_at hl 0 rfl) ?_
          refine lv_dup S.1 S.2.1 dX1_append_60 rfl ?_
          refine gfX1_28 S hK hH h0 dX1_append_61 ?_
          refine lv_iconst (v := nI 1) S.1 S.2.1 dX1_append_64 (by decide) ?_
          refine lv_iadd S.1 S.2.1 dX1_append_65 ?_
          refine tpi (x' := nI (L.length + 1)) (nI_add _ _) ?_
          refine pfX1_28 S hK hH h0 dX1_append_66 (fun w3 H locs h0 fr hH => ?_)
          replace h1 := (fr (a + 1) (by omega)).trans h1
          replace h2 := (fr (a + 2) (by omega)).trans h2
          replace h3 := (fr (a + 3) (by omega)).trans h3
          replace hF : ∀ b, b < a ∨ a + 3 ≤ b → w3 b = w b := fun b hb => (fr b (by omega)).trans (hF b hb)
          refine lv_iconst (v := nI 1) S.1 S.2.1 dX1_append_69 (by decide) ?_
          exact rt_z S hr hlk hH dX1_append_70 (by decide) (⟨rfl, hF, Or.inl ⟨rfl, L ++ [(c, k)], by rw [app, if_neg c2, if_neg (by omega)], _, _, by rw [List.length_append]; exact h0, h1, h2, h3, by rw [List.length_append]; exact c33, h5, fun j hj => up_snoc_l h6 j hj, fun j hj => up_snoc_i h7 j hj, h8⟩⟩)
        · skip
          refine lv_iconst (v := nI 0) S.1 S.2.1 dX1_append_36 (by decide) ?_
          exact rt_z S hr hlk hH dX1_append_37 (by decide) (⟨rfl, hF, Or.inr ⟨rfl, by simp [app, c2, c33], rfl⟩⟩)
  · skip
    have c2 : k = 0 := (lI_eq (by omega) (by omega)).mp c2
    refine lv_iconst (v := nI 1) S.1 S.2.1 dX1_append_6 (by decide) ?_
    exact rt_z S hr hlk hH dX1_append_7 (by decide) (⟨rfl, hF, Or.inl ⟨rfl, L, by simp [app, c2], f, g, h0, h1, h2, h3, h4, h5, h6, h7, h8⟩⟩)

