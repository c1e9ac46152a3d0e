section S27
variable {σ : St} {x a b c d : Int32} {z : Int} {j q : Nat}
theorem sHyp_bad (h : ri x = none) : sHyp σ x = (-1, σ) := by rw [sHyp, h]
theorem sHyp_full (hj : j < 16) (h : 40 ≤ σ.2.2.1) : sHyp σ (nI j) = (-1, σ) := by rw [sHyp, ri_some hj]; simp only []; rw [if_pos h]
theorem sHyp_ok (hj : j < 16) (h : σ.2.2.1 < 40) : sHyp σ (nI j) = (nI σ.2.2.1, (σ.1, va_up σ.2.1 σ.2.2.1 (σ.1 j), σ.2.2.1 + 1, σ.2.2.2)) := by rw [sHyp, ri_some hj]; simp only []; rw [if_neg (by omega)]
theorem lt0 {x : Int32} (h : x < 0) : x.toInt < 0 := by
  rw [Int32.lt_iff_toInt_lt] at h; simpa using h
theorem nlt0 {x : Int32} (h : ¬ x < 0) : 0 ≤ x.toInt := by
  rw [Int32.lt_iff_toInt_lt] at h; simp at h; exact h
theorem sKeep_neg (h : x < 0) : sKeep σ x = (-1, σ) := by rw [sKeep, if_pos (Or.inl (lt0 h))]
theorem sKeep_big (h : ¬ x < 0) (h2 : ¬ x ≤ nI σ.2.2.1) (hb : σ.2.2.1 < 2 ^ 31) : sKeep σ x = (-1, σ) := by
  rw [sKeep, if_pos]
  refine Or.inr ?_
  rw [Int32.le_iff_toInt_le, nI_toInt hb] at h2
  omega
theorem sKeep_ok (h : j ≤ σ.2.2.1) (hb : σ.2.2.1 < 2 ^ 31) : sKeep σ (nI j) = (nI j, (σ.1, σ.2.1, j, σ.2.2.2)) := by
  rw [sKeep, nI_toInt (by omega), if_neg (by omega), Int.toNat_natCast]
theorem sPart_1 (h : x < 0) : sPart σ x a b c d = (-1, σ) := by rw [sPart, if_pos (Or.inl (lt0 h))]
theorem sPart_2 (h : nI 99999999 < x) : sPart σ x a b c d = (-1, σ) := by
  rw [sPart, if_pos]
  refine Or.inr (Or.inl ?_)
  rw [Int32.lt_iff_toInt_lt, nI_toInt (by decide)] at h
  exact h
theorem sPart_3 (h : 20 ≤ σ.2.2.2.2.2) : sPart σ x a b c d = (-1, σ) := by rw [sPart, if_pos (Or.inr (Or.inr (Or.inl h)))]
theorem sPart_4 (h : a < -1) : sPart σ x a b c d = (-1, σ) := by rw [sPart, if_pos (Or.inr (Or.inr (Or.inr (Or.inl h))))]
theorem sPart_5 (h : b < -1) : sPart σ x a b c d = (-1, σ) := by rw [sPart, if_pos (Or.inr (Or.inr (Or.inr (Or.inr (Or.inl h)))))]
theorem sPart_6 (h : c < -1) : sPart σ x a b c d = (-1, σ) := by rw [sPart, if_pos (Or.inr (Or.inr (Or.inr (Or.inr (Or.inr (Or.inl h))))))]
theorem sPart_7 (h : d < -1) : sPart σ x a b c d = (-1, σ) := by rw [sPart, if_pos (Or.inr (Or.inr (Or.inr (Or.inr (Or.inr (Or.inr h))))))]
theorem sPart_ok (h1 : q ≤ 99999999) (h2 : σ.2.2.2.2.2 < 20) (ha : ¬ a < -1) (hb : ¬ b < -1) (hc : ¬ c < -1) (hd : -1 ≤ d) : sPart σ (nI q) a b c d = (nI (σ.2.2.2.2.2 + 1), (σ.1, σ.2.1, σ.2.2.1, va_up σ.2.2.2.1 σ.2.2.2.2.2 q, upd (upd (upd (upd σ.2.2.2.2.1 (4 * σ.2.2.2.2.2) a) (4 * σ.2.2.2.2.2 + 1) b) (4 * σ.2.2.2.2.2 + 2) c) (4 * σ.2.2.2.2.2 + 3) d, σ.2.2.2.2.2 + 1)) := by
  rw [sPart, nI_toInt (by omega), if_neg, Int.toNat_natCast]
  rintro (e | e | e | e | e | e | e)
  · omega
  · omega
  · omega
  · exact ha e
  · exact hb e
  · exact hc e
  · exact absurd hd (Int32.not_le.mpr e)
theorem sShow_bad {k : Int32} (h : ri x = none) : sShow σ x k = (-1, σ) := by rw [sShow, h]
theorem sShow_k (hj : j < 16) (hz : -2147483648 ≤ z ∧ z < 2147483648) (h : z < 1 ∨ 99999999 < z) : sShow σ (nI j) (iI z) = (-1, σ) := by
  rw [sShow, ri_some hj]; simp only [iI_toInt hz]; rw [if_pos h]
theorem sShow_ok (hj : j < 16) (hz : -2147483648 ≤ z ∧ z < 2147483648) (h : 1 ≤ z ∧ z ≤ 99999999) : sShow σ (nI j) (iI z) = (showA σ (σ.1 j) z, (σ.1, σ.2.1, σ.2.2.1, σ.2.2.2.1, σ.2.2.2.2.1, 0)) := by
  rw [sShow, ri_some hj]; simp only [iI_toInt hz]; rw [if_neg (by omega)]
end S27
section I27
variable {D n : Nat} {rg hy : Nat → Option Nat} {nums facs : Nat → Int32} {P T Z : Nat} {pool : Nat → Nat × PL} {σ : St}
theorem hyp_I {ra j : Nat} (hi : DeskI D n rg hy nums facs P T Z pool σ) (h : σ.2.2.1 < 40) (hra : isP D n ra) (hrv : (pool ra).2 = σ.1 j) : DeskI D n rg (va_up hy σ.2.2.1 (some ra)) nums facs P T Z pool (σ.1, va_up σ.2.1 σ.2.2.1 (σ.1 j), σ.2.2.1 + 1, σ.2.2.2) := by
  obtain ⟨hbr, hj, hhc, hpc, hrg, hhy, hnu, hfa⟩ := hi
  refine ⟨hbr, hj, h, hpc, hrg, fun i hi => ?_, hnu, hfa⟩
  by_cases q : i = σ.2.2.1
  · subst q
    exact ⟨ra, va_up_self _ _ _, hra, hrv.trans (va_up_self _ _ _).symm⟩
  · have hi' : i < σ.2.2.1 + 1 := hi
    obtain ⟨a, h1, h2, h3⟩ := hhy i (by omega)
    exact ⟨a, by rw [va_up_ne _ _ q]; exact h1, h2, h3.trans (va_up_ne _ _ q).symm⟩
theorem keep_I {j : Nat} (hi : DeskI D n rg hy nums facs P T Z pool σ) (h : j ≤ σ.2.2.1) : DeskI D n rg hy nums facs P T Z pool (σ.1, σ.2.1, j, σ.2.2.2) := by
  obtain ⟨hbr, hj, hhc, hpc, hrg, hhy, hnu, hfa⟩ := hi
  exact ⟨hbr, hj, Nat.le_trans h hhc, hpc, hrg, fun i hi => hhy i (Nat.lt_of_lt_of_le hi h), hnu, hfa⟩
theorem none_I (hi : DeskI D n rg hy nums facs P T Z pool σ) : DeskI D n rg hy nums facs P T Z pool (σ.1, σ.2.1, σ.2.2.1, σ.2.2.2.1, σ.2.2.2.2.1, 0) := by
  obtain ⟨hbr, hj, hhc, hpc, hrg, hhy, hnu, hfa⟩ := hi
  exact ⟨hbr, hj, hhc, Nat.zero_le _, hrg, hhy, fun i hi => absurd hi (Nat.not_lt_zero i), fun i hi => absurd hi (Nat.not_lt_zero i)⟩
theorem part_I {q : Nat} {a b c d : Int32} (hi : DeskI D n rg hy nums facs P T Z pool σ) (h1 : q ≤ 99999999) (h2 : σ.2.2.2.2.2 < 20) : DeskI D n rg hy (upd nums σ.2.2.2.2.2 (nI q)) (upd (upd (upd (upd facs ((σ.2.2.2.2.2) * 4) a) ((σ.2.2.2.2.2) * 4 + 1) b) ((σ.2.2.2.2.2) * 4 + 2) c) ((σ.2.2.2.2.2) * 4 + 3) d) P T Z pool (σ.1, σ.2.1, σ.2.2.1, va_up σ.2.2.2.1 σ.2.2.2.2.2 q, upd (upd (upd (upd σ.2.2.2.2.1 (4 * σ.2.2.2.2.2) a) (4 * σ.2.2.2.2.2 + 1) b) (4 * σ.2.2.2.2.2 + 2) c) (4 * σ.2.2.2.2.2 + 3) d, σ.2.2.2.2.2 + 1) := by
  obtain ⟨hbr, hj, hhc, hpc, hrg, hhy, hnu, hfa⟩ := hi
  refine ⟨hbr, hj, hhc, h2, hrg, hhy, fun i hi => ?_, fun i hi => ?_⟩
  · by_cases e : i = σ.2.2.2.2.2
    · subst e
      exact ⟨by rw [pk_us]; show nI q = nI (va_up σ.2.2.2.1 σ.2.2.2.2.2 q σ.2.2.2.2.2); rw [va_up_self], by show va_up σ.2.2.2.1 σ.2.2.2.2.2 q σ.2.2.2.2.2 ≤ _; rw [va_up_self]; exact h1⟩
    · have hi' : i < σ.2.2.2.2.2 + 1 := hi
      have := hnu i (by omega)
      exact ⟨by rw [pk_un e]; show nums i = nI (va_up σ.2.2.2.1 σ.2.2.2.2.2 q i); rw [va_up_ne _ _ e]; exact this.1, by show va_up σ.2.2.2.1 σ.2.2.2.2.2 q i ≤ _; rw [va_up_ne _ _ e]; exact this.2⟩
  · have hi' : i < 4 * (σ.2.2.2.2.2 + 1) := hi
    show upd (upd (upd (upd facs (σ.2.2.2.2.2 * 4) a) (σ.2.2.2.2.2 * 4 + 1) b) (σ.2.2.2.2.2 * 4 + 2) c) (σ.2.2.2.2.2 * 4 + 3) d i = upd (upd (upd (upd σ.2.2.2.2.1 (4 * σ.2.2.2.2.2) a) (4 * σ.2.2.2.2.2 + 1) b) (4 * σ.2.2.2.2.2 + 2) c) (4 * σ.2.2.2.2.2 + 3) d i
    rw [Nat.mul_comm σ.2.2.2.2.2 4]
    unfold upd
    by_cases e3 : i = 4 * σ.2.2.2.2.2 + 3
    · rw [if_pos e3, if_pos e3]
    · rw [if_neg e3, if_neg e3]
      by_cases e2 : i = 4 * σ.2.2.2.2.2 + 2
      · rw [if_pos e2, if_pos e2]
      · rw [if_neg e2, if_neg e2]
        by_cases e1 : i = 4 * σ.2.2.2.2.2 + 1
        · rw [if_pos e1, if_pos e1]
        · rw [if_neg e1, if_neg e1]
          by_cases e0 : i = 4 * σ.2.2.2.2.2
          · rw [if_pos e0, if_pos e0]
          · rw [if_neg e0, if_neg e0]
            exact hfa i (by omega)
end I27
/-- a desk just made -/
def DeskN (G : Gx) (w : Wm) (D : Nat) : Prop := ∃ (rg hy : Nat → Option Nat) (nums facs : Nat → Int32) (bg : Int32) (mf : Nat → Int32), w D = some (eO 2 [.ref (D + 5), .ref (D + 6), .int (nI 0), .ref (D + 7), .ref (D + 8), .int (nI 0), .ref (D + 9)]) ∧ w (D + 5) = some (eQ G 16 rg) ∧ w (D + 6) = some (eQ G 40 hy) ∧ w (D + 7) = some (eI G 20 nums) ∧ w (D + 8) = some (eI G 80 facs) ∧ w (D + 9) = some (eO 0 [.ref (D + 9 + 1), .ref (D + 9 + 5), .ref (D + 9 + 9), .ref (D + 9 + 13), .int bg]) ∧ w (D + 9 + 13) = some (eI G 60 mf) ∧ PolyAt G w (D + 9 + 1) 60 [] ∧ PolyAt G w (D + 9 + 5) 60 [] ∧ PolyAt G w (D + 9 + 9) 60 [] ∧ PolyAt G w (D + 1) 0 [] ∧ ∀ u, u < 16 → rg u = some (D + 1)
def st0 : St := (fun _ => [], fun _ => [], 0, fun _ => 0, fun _ => 0, 0)
theorem DeskN.S {G : Gx} {w : Wm} {D : Nat} (h : DeskN G w D) : DeskS G w (D + 36) D st0 := by
  obtain ⟨rg, hy, nums, facs, bg, mf, d0, d5, d6, d7, d8, d9, dm, h1, h2, h3, hz, hr⟩ := h
  refine ⟨rg, hy, nums, facs, D + 9 + 1, D + 9 + 5, D + 9 + 9, fun _ => (0, []), ⟨d0, d5, d6, d7, d8, ⟨bg, d9⟩, ⟨mf, dm⟩, h1.raw, h2.raw, h3.raw, fun a ha => ?_⟩, ⟨by unfold BR; omega, by omega, Nat.zero_le _, Nat.zero_le _, fun i hi => ⟨D + 1, hr i hi, Or.inl rfl, rfl⟩, fun i hi => absurd hi (Nat.not_lt_zero i), fun i hi => absurd hi (Nat.not_lt_zero i), fun i hi => absurd hi (Nat.not_lt_zero i)⟩⟩
  have : a = D + 1 := by
    unfold isP at ha; omega
  subst this
  exact ⟨hz, okP_nil⟩

set_option maxHeartbeats 4000000 in
set_option maxRecDepth 100000 in
theorem kX2_hypothesis {l : Launch} {G : Gx} {B : Nat} {w : Wm} {n : Nat} (D : Nat) (x : Int32) (σ : St) (hs : DeskS G w n D σ) : Met l yX2_hypothesis (wsM yX2_hypothesis cX2_hypothesis 2 (some .int)) ({ frames := 1, cells := 0, slots := 0, locals := 20 } : Room) (Pcx G B w n [.ref (D), .int (x)]) (Qi G B (fun r w' n' => n' = n ∧ (∀ b, (D + 23 ≤ b ∧ b < D + 36) → w' b = w b) ∧ r = (sHyp σ x).1 ∧ DeskS G w' n D (sHyp σ x).2)) 0 0 (FA B) := by
  refine en (by decide) (Nat.le_of_ble_eq_true rfl) ?_
  intro p ev s mm ag bl mt co S hr hlk hnm hK H hH ls hl
  have hl : lv_has ls 2 [(0, .ref (D)), (1, .int (x))] := hl
  obtain ⟨rg, hy, nums, facs, P, T, Z, pool, hd, hi⟩ := hs
  obtain ⟨d0, d5, d6, d7, d8, ⟨bg, d9⟩, ⟨mf, dm⟩, hP, hT, hZ, hpl⟩ := hd
  obtain ⟨hbr, hj, hhc, hpc, hrg, hhy, hnu, hfa⟩ := id hi
  unfold BR at hbr
  have hF : ∀ b, D + 23 ≤ b ∧ b < D + 36 → w b = w b := fun _ _ => rfl
  refine lv_iload_n S.1 S.2.1 dX2_hypothesis_0 rfl (lv_at hl 1 rfl) ?_
  refine ck_ip (run_S (As := [.int (x)]) (rest := []) S hK hH (kX2_isRegister x) ceX2_isRegister mW101 rfl hl.1 rfl (Nat.le_of_ble_eq_true rfl) dX2_hypothesis_1 ⟨rfl, rfl, by decide, by decide⟩ ⟨show 0 + 0 ≤ 0 by omega, show 0 + 0 ≤ 0 by omega⟩) hH (fun r1 H locs hp hH => ?_)
  have hq1 : Hid _ := hp
  clear hp
  refine lv_if_eq (tgt := 16) S.1 S.2.1 dX2_hypothesis_4 (by decide) (fun c4 => ?_) (fun c4 => ?_)
  · skip
    rcases hq1 with ⟨e, _⟩ | ⟨_, hb⟩
    · rw [e] at c4; exact absurd c4 (by decide)
    refine lv_iconst (v := (-1)) S.1 S.2.1 dX2_hypothesis_16 (by decide) ?_
    exact rt_i S hr hlk hH dX2_hypothesis_17 (⟨rfl, hF, by rw [sHyp_bad (ri_none hb)], by rw [sHyp_bad (ri_none hb)]; exact ⟨_, _, _, _, P, T, Z, _, ⟨d0, d5, d6, d7, d8, ⟨_, d9⟩, ⟨_, dm⟩, hP, hT, hZ, hpl⟩, hi⟩⟩)
  · skip
    rcases hq1 with ⟨_, j, hj0, rfl⟩ | ⟨e, _⟩
    rotate_left
    · exact absurd e c4
    refine lv_aload_n S.1 S.2.1 dX2_hypothesis_7 rfl (lv_at hl 0 rfl) ?_
    refine gfX2_21 S hK hH d0 dX2_hypothesis_8 ?_
    refine lv_bipush (v := nI 40) S.1 S.2.1 dX2_hypothesis_11 (by decide) ?_
    refine bn_lt (tgt := 18) S dX2_hypothesis_13 (by decide) (by omega) (fun c13 => ?_) (fun c13 => ?_)
    · skip
      obtain ⟨ra, rae, rai, rav⟩ := hrg j hj0
      have rain := isP_in rai
      have ral := isP_lt (by omega) rai
      obtain ⟨kra, pra, hra, _⟩ := (hpl ra rai).1
      refine lv_aload_n S.1 S.2.1 dX2_hypothesis_18 rfl (lv_at hl 0 rfl) ?_
      refine gfX2_18 S hK hH d0 dX2_hypothesis_19 ?_
      refine lv_aload_n S.1 S.2.1 dX2_hypothesis_22 rfl (lv_at hl 0 rfl) ?_
      refine gfX2_21 S hK hH d0 dX2_hypothesis_23 ?_
      refine lv_aload_n S.1 S.2.1 dX2_hypothesis_26 rfl (lv_at hl 0 rfl) ?_
      refine gfX2_14 S hK hH d0 dX2_hypothesis_27 ?_
      refine lv_iload_n S.1 S.2.1 dX2_hypothesis_30 rfl (lv_at hl 1 rfl) ?_
      refine ald_a S hK hH d5 (by omega) (by omega) (rae) dX2_hypothesis_31 ?_
      refine ast_a S hK hH d6 hra.ob (by omega) (by omega) dX2_hypothesis_32 (fun w2 H locs d6 fr hH => ?_)
      replace d0 := (fr (D) (by omega)).trans d0
      replace d5 := (fr (D + 5) (by omega)).trans d5
      replace d7 := (fr (D + 7) (by omega)).trans d7
      replace d8 := (fr (D + 8) (by omega)).trans d8
      replace d9 := (fr (D + 9) (by omega)).trans d9
      replace dm := (fr (D + 22) (by omega)).trans dm
      replace hP := hP.kept (fun b h1 h2 => fr b (by omega))
      replace hT := hT.kept (fun b h1 h2 => fr b (by omega))
      replace hZ := hZ.kept (fun b h1 h2 => fr b (by omega))
      replace hpl := hpl.kept (fun b h1 h2 => fr b (by omega))
      replace hF : ∀ b, D + 23 ≤ b ∧ b < D + 36 → w2 b = w b := fun b hb => (fr b (by omega)).trans (hF b hb)
      refine lv_aload_n S.1 S.2.1 dX2_hypothesis_33 rfl (lv_at hl 0 rfl) ?_
      refine lv_dup S.1 S.2.1 dX2_hypothesis_34 rfl ?_
      refine gfX2_21 S hK hH d0 dX2_hypothesis_35 ?_
      refine lv_iconst (v := nI 1) S.1 S.2.1 dX2_hypothesis_38 (by decide) ?_
      refine lv_iadd S.1 S.2.1 dX2_hypothesis_39 ?_
      refine tpi (x' := nI (σ.2.2.1 + 1)) (nI_add _ _) ?_
      refine pfX2_21 S hK hH d0 dX2_hypothesis_40 (fun w3 H locs d0 fr hH => ?_)
      replace d5 := (fr (D + 5) (by omega)).trans d5
      replace d6 := (fr (D + 6) (by omega)).trans d6
      replace d7 := (fr (D + 7) (by omega)).trans d7
      replace d8 := (fr (D + 8) (by omega)).trans d8
      replace d9 := (fr (D + 9) (by omega)).trans d9
      replace dm := (fr (D + 22) (by omega)).trans dm
      replace hP := hP.kept (fun b h1 h2 => fr b (by omega))
      replace hT := hT.kept (fun b h1 h2 => fr b (by omega))
      replace hZ := hZ.kept (fun b h1 h2 => fr b (by omega))
      replace hpl := hpl.kept (fun b h1 h2 => fr b (by omega))
      replace hF : ∀ b, D + 23 ≤ b ∧ b < D + 36 → w3 b = w b := fun b hb => (fr b (by omega)).trans (hF b hb)
      refine lv_aload_n S.1 S.2.1 dX2_hypothesis_43 rfl (lv_at hl 0 rfl) ?_
      refine gfX2_21 S hK hH d0 dX2_hypothesis_44 ?_
      refine lv_iconst (v := nI 1) S.1 S.2.1 dX2_hypothesis_47 (by decide) ?_
      refine lv_isub S.1 S.2.1 dX2_hypothesis_48 ?_
      refine tpi (x' := nI ((σ.2.2.1 + 1) - 1)) (pk_sub (by omega)) ?_
      exact rt_i S hr hlk hH dX2_hypothesis_49 (⟨rfl, hF, by rw [sHyp_ok hj0 c13]; rfl, by rw [sHyp_ok hj0 c13]; exact ⟨_, _, _, _, P, T, Z, _, ⟨d0, d5, d6, d7, d8, ⟨_, d9⟩, ⟨_, dm⟩, hP, hT, hZ, hpl⟩, hyp_I hi c13 rai rav⟩⟩)
    · skip
      refine lv_iconst (v := (-1)) S.1 S.2.1 dX2_hypothesis_16 (by decide) ?_
      exact rt_i S hr hlk hH dX2_hypothesis_17 (⟨rfl, hF, by rw [sHyp_full hj0 c13], by rw [sHyp_full hj0 c13]; exact ⟨_, _, _, _, P, T, Z, _, ⟨d0, d5, d6, d7, d8, ⟨_, d9⟩, ⟨_, dm⟩, hP, hT, hZ, hpl⟩, hi⟩⟩)

set_option maxHeartbeats 4000000 in
set_option maxRecDepth 100000 in
theorem kX2_keep {l : Launch} {G : Gx} {B : Nat} {w : Wm} {n : Nat} (D : Nat) (x : Int32) (σ : St) (hs : DeskS G w n D σ) : Met l yX2_keep (wsM yX2_keep cX2_keep 2 (some .int)) ({ frames := 0, cells := 0, slots := 0, locals := 0 } : Room) (Pcx G B w n [.ref (D), .int (x)]) (Qi G B (fun r w' n' => n' = n ∧ (∀ b, (D + 23 ≤ b ∧ b < D + 36) → w' b = w b) ∧ r = (sKeep σ x).1 ∧ DeskS G w' n D (sKeep σ x).2)) 0 0 (FA B) := by
  refine en (by decide) (Nat.le_of_ble_eq_true rfl) ?_
  intro p ev s mm ag bl mt co S hr hlk hnm hK H hH ls hl
  have hl : lv_has ls 2 [(0, .ref (D)), (1, .int (x))] := hl
  obtain ⟨rg, hy, nums, facs, P, T, Z, pool, hd, hi⟩ := hs
  obtain ⟨d0, d5, d6, d7, d8, ⟨bg, d9⟩, ⟨mf, dm⟩, hP, hT, hZ, hpl⟩ := hd
  obtain ⟨hbr, hj, hhc, hpc, hrg, hhy, hnu, hfa⟩ := id hi
  unfold BR at hbr
  have hF : ∀ b, D + 23 ≤ b ∧ b < D + 36 → w b = w b := fun _ _ => rfl
  refine lv_iload_n S.1 S.2.1 dX2_keep_0 rfl (lv_at hl 1 rfl) ?_
  refine lv_if_lt (tgt := 12) S.1 S.2.1 dX2_keep_1 (by decide) (fun c1 => ?_) (fun c1 => ?_)
  · skip
    refine lv_iconst (v := (-1)) S.1 S.2.1 dX2_keep_12 (by decide) ?_
    exact rt_i S hr hlk hH dX2_keep_13 (⟨rfl, hF, by rw [sKeep_neg c1], by rw [sKeep_neg c1]; exact ⟨_, _, _, _, P, T, Z, _, ⟨d0, d5, d6, d7, d8, ⟨_, d9⟩, ⟨_, dm⟩, hP, hT, hZ, hpl⟩, hi⟩⟩)
  · skip
    refine lv_iload_n S.1 S.2.1 dX2_keep_4 rfl (lv_at hl 1 rfl) ?_
    refine lv_aload_n S.1 S.2.1 dX2_keep_5 rfl (lv_at hl 0 rfl) ?_
    refine gfX2_21 S hK hH d0 dX2_keep_6 ?_
    refine lv_icmp_le (tgt := 14) S.1 S.2.1 dX2_keep_9 (by decide) (fun c9 => ?_) (fun c9 => ?_)
    · skip
      obtain ⟨j, hj1, rfl⟩ := nI_of c1
      have c9 : j ≤ σ.2.2.1 := (nI_leI (by omega) (by omega)).mp c9
      refine lv_aload_n S.1 S.2.1 dX2_keep_14 rfl (lv_at hl 0 rfl) ?_
      refine lv_iload_n S.1 S.2.1 dX2_keep_15 rfl (lv_at hl 1 rfl) ?_
      refine pfX2_21 S hK hH d0 dX2_keep_16 (fun w1 H locs d0 fr hH => ?_)
      replace d5 := (fr (D + 5) (by omega)).trans d5
      replace d6 := (fr (D + 6) (by omega)).trans d6
      replace d7 := (fr (D + 7) (by omega)).trans d7
      replace d8 := (fr (D + 8) (by omega)).trans d8
      replace d9 := (fr (D + 9) (by omega)).trans d9
      replace dm := (fr (D + 22) (by omega)).trans dm
      replace hP := hP.kept (fun b h1 h2 => fr b (by omega))
      replace hT := hT.kept (fun b h1 h2 => fr b (by omega))
      replace hZ := hZ.kept (fun b h1 h2 => fr b (by omega))
      replace hpl := hpl.kept (fun b h1 h2 => fr b (by omega))
      replace hF : ∀ b, D + 23 ≤ b ∧ b < D + 36 → w1 b = w b := fun b hb => (fr b (by omega)).trans (hF b hb)
      refine lv_iload_n S.1 S.2.1 dX2_keep_19 rfl (lv_at hl 1 rfl) ?_
      exact rt_i S hr hlk hH dX2_keep_20 (⟨rfl, hF, by rw [sKeep_ok c9 (by omega)], by rw [sKeep_ok c9 (by omega)]; exact ⟨_, _, _, _, P, T, Z, _, ⟨d0, d5, d6, d7, d8, ⟨_, d9⟩, ⟨_, dm⟩, hP, hT, hZ, hpl⟩, keep_I hi c9⟩⟩)
    · skip
      refine lv_iconst (v := (-1)) S.1 S.2.1 dX2_keep_12 (by decide) ?_
      exact rt_i S hr hlk hH dX2_keep_13 (⟨rfl, hF, by rw [sKeep_big c1 c9 (by omega)], by rw [sKeep_big c1 c9 (by omega)]; exact ⟨_, _, _, _, P, T, Z, _, ⟨d0, d5, d6, d7, d8, ⟨_, d9⟩, ⟨_, dm⟩, hP, hT, hZ, hpl⟩, hi⟩⟩)

set_option maxHeartbeats 4000000 in
set_option maxRecDepth 100000 in
theorem kX2_part {l : Launch} {G : Gx} {B : Nat} {w : Wm} {n : Nat} (D : Nat) (x a b c d : Int32) (σ : St) (hs : DeskS G w n D σ) : Met l yX2_part (wsM yX2_part cX2_part 7 (some .int)) ({ frames := 0, cells := 0, slots := 0, locals := 0 } : Room) (Pcx G B w n [.ref (D), .int (x), .int (a), .int (b), .int (c), .int (d)]) (Qi G B (fun r w' n' => n' = n ∧ (∀ b, (D + 23 ≤ b ∧ b < D + 36) → w' b = w b) ∧ r = (sPart σ x a b c d).1 ∧ DeskS G w' n D (sPart σ x a b c d).2)) 0 0 (FA B) := by
  refine en (by decide) (Nat.le_of_ble_eq_true rfl) ?_
  intro p ev s mm ag bl mt co S hr hlk hnm hK H hH ls hl
  have hl : lv_has ls 7 [(0, .ref (D)), (1, .int (x)), (2, .int (a)), (3, .int (b)), (4, .int (c)), (5, .int (d))] := hl
  obtain ⟨rg, hy, nums, facs, P, T, Z, pool, hd, hi⟩ := hs
  obtain ⟨d0, d5, d6, d7, d8, ⟨bg, d9⟩, ⟨mf, dm⟩, hP, hT, hZ, hpl⟩ := hd
  obtain ⟨hbr, hj, hhc, hpc, hrg, hhy, hnu, hfa⟩ := id hi
  unfold BR at hbr
  have hF : ∀ b, D + 23 ≤ b ∧ b < D + 36 → w b = w b := fun _ _ => rfl
  refine lv_iload_n S.1 S.2.1 dX2_part_0 rfl (lv_at hl 1 rfl) ?_
  refine lv_if_lt (tgt := 19) S.1 S.2.1 dX2_part_1 (by decide) (fun c1 => ?_) (fun c1 => ?_)
  · skip
    refine lv_iconst (v := (-1)) S.1 S.2.1 dX2_part_19 (by decide) ?_
    exact rt_i S hr hlk hH dX2_part_20 (⟨rfl, hF, by rw [sPart_1 c1], by rw [sPart_1 c1]; exact ⟨_, _, _, _, P, T, Z, _, ⟨d0, d5, d6, d7, d8, ⟨_, d9⟩, ⟨_, dm⟩, hP, hT, hZ, hpl⟩, hi⟩⟩)
  · skip
    refine lv_iload_n S.1 S.2.1 dX2_part_4 rfl (lv_at hl 1 rfl) ?_
    refine lv_ldc S.1 S.2.1 S.2.2.2.1 (S.2.2.2.2 _ mW104) dX2_part_5 ?_
    refine tpi (x' := nI 99999999) (by decide) ?_
    refine lv_icmp_gt (tgt := 19) S.1 S.2.1 dX2_part_7 (by decide) (fun c7 => ?_) (fun c7 => ?_)
    · skip
      refine lv_iconst (v := (-1)) S.1 S.2.1 dX2_part_19 (by decide) ?_
      exact rt_i S hr hlk hH dX2_part_20 (⟨rfl, hF, by rw [sPart_2 c7], by rw [sPart_2 c7]; exact ⟨_, _, _, _, P, T, Z, _, ⟨d0, d5, d6, d7, d8, ⟨_, d9⟩, ⟨_, dm⟩, hP, hT, hZ, hpl⟩, hi⟩⟩)
    · skip
      obtain ⟨q1, hq1, rfl⟩ := nI_of c1
      have c7 : q1 ≤ 99999999 := Nat.le_of_not_lt (fun e => c7 (nI_lt e (by omega)))
      refine lv_aload_n S.1 S.2.1 dX2_part_10 rfl (lv_at hl 0 rfl) ?_
      refine gfX2_32 S hK hH d0 dX2_part_11 ?_
      refine lv_bipush (v := nI 20) S.1 S.2.1 dX2_part_14 (by decide) ?_
      refine bn_lt (tgt := 21) S dX2_part_16 (by decide) (by omega) (fun c16 => ?_) (fun c16 => ?_)
      · skip
        refine lv_iload_n S.1 S.2.1 dX2_part_21 rfl (lv_at hl 2 rfl) ?_
        refine lv_iconst (v := (-1)) S.1 S.2.1 dX2_part_22 (by decide) ?_
        refine lv_icmp_lt (tgt := 43) S.1 S.2.1 dX2_part_23 (by decide) (fun c23 => ?_) (fun c23 => ?_)
        · skip
          refine lv_iconst (v := (-1)) S.1 S.2.1 dX2_part_43 (by decide) ?_
          exact rt_i S hr hlk hH dX2_part_44 (⟨rfl, hF, by rw [sPart_4 c23], by rw [sPart_4 c23]; exact ⟨_, _, _, _, P, T, Z, _, ⟨d0, d5, d6, d7, d8, ⟨_, d9⟩, ⟨_, dm⟩, hP, hT, hZ, hpl⟩, hi⟩⟩)
        · skip
          refine lv_iload_n S.1 S.2.1 dX2_part_26 rfl (lv_at hl 3 rfl) ?_
          refine lv_iconst (v := (-1)) S.1 S.2.1 dX2_part_27 (by decide) ?_
          refine lv_icmp_lt (tgt := 43) S.1 S.2.1 dX2_part_28 (by decide) (fun c28 => ?_) (fun c28 => ?_)
          · skip
            refine lv_iconst (v := (-1)) S.1 S.2.1 dX2_part_43 (by decide) ?_
            exact rt_i S hr hlk hH dX2_part_44 (⟨rfl, hF, by rw [sPart_5 c28], by rw [sPart_5 c28]; exact ⟨_, _, _, _, P, T, Z, _, ⟨d0, d5, d6, d7, d8, ⟨_, d9⟩, ⟨_, dm⟩, hP, hT, hZ, hpl⟩, hi⟩⟩)
          · skip
            refine lv_iload S.1 S.2.1 dX2_part_31 (lv_at hl 4 rfl) ?_
            refine lv_iconst (v := (-1)) S.1 S.2.1 dX2_part_33 (by decide) ?_
            refine lv_icmp_lt (tgt := 43) S.1 S.2.1 dX2_part_34 (by decide) (fun c34 => ?_) (fun c34 => ?_)
            · skip
              refine lv_iconst (v := (-1)) S.1 S.2.1 dX2_part_43 (by decide) ?_
              exact rt_i S hr hlk hH dX2_part_44 (⟨rfl, hF, by rw [sPart_6 c34], by rw [sPart_6 c34]; exact ⟨_, _, _, _, P, T, Z, _, ⟨d0, d5, d6, d7, d8, ⟨_, d9⟩, ⟨_, dm⟩, hP, hT, hZ, hpl⟩, hi⟩⟩)
            · skip
              refine lv_iload S.1 S.2.1 dX2_part_37 (lv_at hl 5 rfl) ?_
              refine lv_iconst (v := (-1)) S.1 S.2.1 dX2_part_39 (by decide) ?_
              refine lv_icmp_ge (tgt := 45) S.1 S.2.1 dX2_part_40 (by decide) (fun c40 => ?_) (fun c40 => ?_)
              · skip
                refine lv_aload_n S.1 S.2.1 dX2_part_45 rfl (lv_at hl 0 rfl) ?_
                refine gfX2_32 S hK hH d0 dX2_part_46 ?_
                refine lv_iconst (v := nI 4) S.1 S.2.1 dX2_part_49 (by decide) ?_
                refine lv_imul S.1 S.2.1 dX2_part_50 ?_
                refine tpi (x' := nI ((σ.2.2.2.2.2) * 4)) (pk_mul _ _) ?_
                refine lv_istore (lv' := [(6, .int (nI ((σ.2.2.2.2.2) * 4))), (0, .ref (D)), (1, .int (nI q1)), (2, .int (a)), (3, .int (b)), (4, .int (c)), (5, .int (d))]) S.1 S.2.1 dX2_part_51 hl (by decide) rfl (fun ls hl => ?_)
                refine lv_aload_n S.1 S.2.1 dX2_part_53 rfl (lv_at hl 1 rfl) ?_
                refine gfX2_29 S hK hH d0 dX2_part_54 ?_
                refine lv_iload S.1 S.2.1 dX2_part_57 (lv_at hl 0 rfl) ?_
                refine lv_iload_n S.1 S.2.1 dX2_part_59 rfl (lv_at hl 3 rfl) ?_
                refine ast_i S hK hH d8 (by omega) (by omega) dX2_part_60 (fun w1 H locs d8 fr hH => ?_)
                replace d0 := (fr (D) (by omega)).trans d0
                replace d5 := (fr (D + 5) (by omega)).trans d5
                replace d6 := (fr (D + 6) (by omega)).trans d6
                replace d7 := (fr (D + 7) (by omega)).trans d7
                replace d9 := (fr (D + 9) (by omega)).trans d9
                replace dm := (fr (D + 22) (by omega)).trans dm
                replace hP := hP.kept (fun b h1 h2 => fr b (by omega))
                replace hT := hT.kept (fun b h1 h2 => fr b (by omega))
                replace hZ := hZ.kept (fun b h1 h2 => fr b (by omega))
                replace hpl := hpl.kept (fun b h1 h2 => fr b (by omega))
                replace hF : ∀ b, D + 23 ≤ b ∧ b < D + 36 → w1 b = w b := fun b hb => (fr b (by omega)).trans (hF b hb)
                refine lv_aload_n S.1 S.2.1 dX2_part_61 rfl (lv_at hl 1 rfl) ?_
                refine gfX2_29 S hK hH d0 dX2_part_62 ?_
                refine lv_iload S.1 S.2.1 dX2_part_65 (lv_at hl 0 rfl) ?_
                refine lv_iconst (v := nI 1) S.1 S.2.1 dX2_part_67 (by decide) ?_
                refine lv_iadd S.1 S.2.1 dX2_part_68 ?_
                refine tpi (x' := nI ((σ.2.2.2.2.2) * 4 + 1)) (nI_add _ _) ?_
                refine lv_iload_n S.1 S.2.1 dX2_part_69 rfl (lv_at hl 4 rfl) ?_
                refine ast_i S hK hH d8 (by omega) (by omega) dX2_part_70 (fun w2 H locs d8 fr hH => ?_)
                replace d0 := (fr (D) (by omega)).trans d0
                replace d5 := (fr (D + 5) (by omega)).trans d5
                replace d6 := (fr (D + 6) (by omega)).trans d6
                replace d7 := (fr (D + 7) (by omega)).trans d7
                replace d9 := (fr (D + 9) (by omega)).trans d9
                replace dm := (fr (D + 22) (by omega)).trans dm
                replace hP := hP.kept (fun b h1 h2 => fr b (by omega))
                replace hT := hT.kept (fun b h1 h2 => fr b (by omega))
                replace hZ := hZ.kept (fun b h1 h2 => fr b (by omega))
                replace hpl := hpl.kept (fun b h1 h2 => fr b (by omega))
                replace hF : ∀ b, D + 23 ≤ b ∧ b < D + 36 → w2 b = w b := fun b hb => (fr b (by omega)).trans (hF b hb)
                refine lv_aload_n S.1 S.2.1 dX2_part_71 rfl (lv_at hl 1 rfl) ?_
                refine gfX2_29 S hK hH d0 dX2_part_72 ?_
                refine lv_iload S.1 S.2.1 dX2_part_75 (lv_at hl 0 rfl) ?_
                refine lv_iconst (v := nI 2) S.1 S.2.1 dX2_part_77 (by decide) ?_
                refine lv_iadd S.1 S.2.1 dX2_part_78 ?_
                refine tpi (x' := nI ((σ.2.2.2.2.2) * 4 + 2)) (nI_add _ _) ?_
                refine lv_iload S.1 S.2.1 dX2_part_79 (lv_at hl 5 rfl) ?_
                refine ast_i S hK hH d8 (by omega) (by omega) dX2_part_81 (fun w3 H locs d8 fr hH => ?_)
                replace d0 := (fr (D) (by omega)).trans d0
                replace d5 := (fr (D + 5) (by omega)).trans d5
                replace d6 := (fr (D + 6) (by omega)).trans d6
                replace d7 := (fr (D + 7) (by omega)).trans d7
                replace d9 := (fr (D + 9) (by omega)).trans d9
                replace dm := (fr (D + 22) (by omega)).trans dm
                replace hP := hP.kept (fun b h1 h2 => fr b (by omega))
                replace hT := hT.kept (fun b h1 h2 => fr b (by omega))
                replace hZ := hZ.kept (fun b h1 h2 => fr b (by omega))
                replace hpl := hpl.kept (fun b h1 h2 => fr b (by omega))
                replace hF : ∀ b, D + 23 ≤ b ∧ b < D + 36 → w3 b = w b := fun b hb => (fr b (by omega)).trans (hF b hb)
                refine lv_aload_n S.1 S.2.1 dX2_part_82 rfl (lv_at hl 1 rfl) ?_
                refine gfX2_29 S hK hH d0 dX2_part_83 ?_
                refine lv_iload S.1 S.2.1 dX2_part_86 (lv_at hl 0 rfl) ?_
                refine lv_iconst (v := nI 3) S.1 S.2.1 dX2_part_88 (by decide) ?_
                refine lv_iadd S.1 S.2.1 dX2_part_89 ?_
                refine tpi (x' := nI ((σ.2.2.2.2.2) * 4 + 3)) (nI_add _ _) ?_
                refine lv_iload S.1 S.2.1 dX2_part_90 (lv_at hl 6 rfl) ?_
                refine ast_i S hK hH d8 (by omega) (by omega) dX2_part_92 (fun w4 H locs d8 fr hH => ?_)
                replace d0 := (fr (D) (by omega)).trans d0
                replace d5 := (fr (D + 5) (by omega)).trans d5
                replace d6 := (fr (D + 6) (by omega)).trans d6
                replace d7 := (fr (D + 7) (by omega)).trans d7
                replace d9 := (fr (D + 9) (by omega)).trans d9
                replace dm := (fr (D + 22) (by omega)).trans dm
                replace hP := hP.kept (fun b h1 h2 => fr b (by omega))
                replace hT := hT.kept (fun b h1 h2 => fr b (by omega))
                replace hZ := hZ.kept (fun b h1 h2 => fr b (by omega))
                replace hpl := hpl.kept (fun b h1 h2 => fr b (by omega))
                replace hF : ∀ b, D + 23 ≤ b ∧ b < D + 36 → w4 b = w b := fun b hb => (fr b (by omega)).trans (hF b hb)
                refine lv_aload_n S.1 S.2.1 dX2_part_93 rfl (lv_at hl 1 rfl) ?_
                refine gfX2_25 S hK hH d0 dX2_part_94 ?_
                refine lv_aload_n S.1 S.2.1 dX2_part_97 rfl (lv_at hl 1 rfl) ?_
                refine gfX2_32 S hK hH d0 dX2_part_98 ?_
                refine lv_iload_n S.1 S.2.1 dX2_part_101 rfl (lv_at hl 2 rfl) ?_
                refine ast_i S hK hH d7 (by omega) (by omega) dX2_part_102 (fun w5 H locs d7 fr hH => ?_)
                replace d0 := (fr (D) (by omega)).trans d0
                replace d5 := (fr (D + 5) (by omega)).trans d5
                replace d6 := (fr (D + 6) (by omega)).trans d6
                replace d8 := (fr (D + 8) (by omega)).trans d8
                replace d9 := (fr (D + 9) (by omega)).trans d9
                replace dm := (fr (D + 22) (by omega)).trans dm
                replace hP := hP.kept (fun b h1 h2 => fr b (by omega))
                replace hT := hT.kept (fun b h1 h2 => fr b (by omega))
                replace hZ := hZ.kept (fun b h1 h2 => fr b (by omega))
                replace hpl := hpl.kept (fun b h1 h2 => fr b (by omega))
                replace hF : ∀ b, D + 23 ≤ b ∧ b < D + 36 → w5 b = w b := fun b hb => (fr b (by omega)).trans (hF b hb)
                refine lv_aload_n S.1 S.2.1 dX2_part_103 rfl (lv_at hl 1 rfl) ?_
                refine lv_dup S.1 S.2.1 dX2_part_104 rfl ?_
                refine gfX2_32 S hK hH d0 dX2_part_105 ?_
                refine lv_iconst (v := nI 1) S.1 S.2.1 dX2_part_108 (by decide) ?_
                refine lv_iadd S.1 S.2.1 dX2_part_109 ?_
                refine tpi (x' := nI (σ.2.2.2.2.2 + 1)) (nI_add _ _) ?_
                refine pfX2_32 S hK hH d0 dX2_part_110 (fun w6 H locs d0 fr hH => ?_)
                replace d5 := (fr (D + 5) (by omega)).trans d5
                replace d6 := (fr (D + 6) (by omega)).trans d6
                replace d7 := (fr (D + 7) (by omega)).trans d7
                replace d8 := (fr (D + 8) (by omega)).trans d8
                replace d9 := (fr (D + 9) (by omega)).trans d9
                replace dm := (fr (D + 22) (by omega)).trans dm
                replace hP := hP.kept (fun b h1 h2 => fr b (by omega))
                replace hT := hT.kept (fun b h1 h2 => fr b (by omega))
                replace hZ := hZ.kept (fun b h1 h2 => fr b (by omega))
                replace hpl := hpl.kept (fun b h1 h2 => fr b (by omega))
                replace hF : ∀ b, D + 23 ≤ b ∧ b < D + 36 → w6 b = w b := fun b hb => (fr b (by omega)).trans (hF b hb)
                refine lv_aload_n S.1 S.2.1 dX2_part_113 rfl (lv_at hl 1 rfl) ?_
                refine gfX2_32 S hK hH d0 dX2_part_114 ?_
                exact rt_i S hr hlk hH dX2_part_117 (⟨rfl, hF, by rw [sPart_ok c7 c16 c23 c28 c34 c40], by rw [sPart_ok c7 c16 c23 c28 c34 c40]; exact ⟨_, _, _, _, P, T, Z, _, ⟨d0, d5, d6, d7, d8, ⟨_, d9⟩, ⟨_, dm⟩, hP, hT, hZ, hpl⟩, part_I hi c7 c16⟩⟩)
              · skip
                refine lv_iconst (v := (-1)) S.1 S.2.1 dX2_part_43 (by decide) ?_
                exact rt_i S hr hlk hH dX2_part_44 (⟨rfl, hF, by rw [sPart_7 (Int32.not_le.mp c40)], by rw [sPart_7 (Int32.not_le.mp c40)]; exact ⟨_, _, _, _, P, T, Z, _, ⟨d0, d5, d6, d7, d8, ⟨_, d9⟩, ⟨_, dm⟩, hP, hT, hZ, hpl⟩, hi⟩⟩)
      · skip
        refine lv_iconst (v := (-1)) S.1 S.2.1 dX2_part_19 (by decide) ?_
        exact rt_i S hr hlk hH dX2_part_20 (⟨rfl, hF, by rw [sPart_3 c16], by rw [sPart_3 c16]; exact ⟨_, _, _, _, P, T, Z, _, ⟨d0, d5, d6, d7, d8, ⟨_, d9⟩, ⟨_, dm⟩, hP, hT, hZ, hpl⟩, hi⟩⟩)

set_option maxHeartbeats 4000000 in
set_option maxRecDepth 100000 in
theorem kX2_show {l : Launch} {G : Gx} {B : Nat} {w : Wm} {n : Nat} (D : Nat) (x k : Int32) (σ : St) (hs : DeskS G w n D σ) : Met l yX2_show (wsM yX2_show cX2_show 4 (some .int)) ({ frames := 7, cells := 4, slots := 141, locals := 168 } : Room) (Pcx G B w n [.ref (D), .int (x), .int (k)]) (Qi G B (fun r w' n' => (n' = n ∨ n' = n + 4) ∧ (∀ b, (D + 23 ≤ b ∧ b < D + 36) → w' b = w b) ∧ r = (sShow σ x k).1 ∧ DeskS G w' n' D (sShow σ x k).2)) 4 141 (FA B) := by
  refine en (by decide) (Nat.le_of_ble_eq_true rfl) ?_
  intro p ev s mm ag bl mt co S hr hlk hnm hK H hH ls hl
  have hl : lv_has ls 4 [(0, .ref (D)), (1, .int (x)), (2, .int (k))] := hl
  obtain ⟨rg, hy, nums, facs, P, T, Z, pool, hd, hi⟩ := hs
  have hd0 := hd
  obtain ⟨d0, d5, d6, d7, d8, ⟨bg, d9⟩, ⟨mf, dm⟩, hP, hT, hZ, hpl⟩ := hd
  obtain ⟨hbr, hj, hhc, hpc, hrg, hhy, hnu, hfa⟩ := id hi
  unfold BR at hbr
  obtain ⟨z, hz1, hz2, rfl⟩ := iI_of k
  have hF : ∀ b, D + 23 ≤ b ∧ b < D + 36 → w b = w b := fun _ _ => rfl
  refine lv_iload_n S.1 S.2.1 dX2_show_0 rfl (lv_at hl 1 rfl) ?_
  refine ck_ip (run_S (As := [.int (x)]) (rest := []) S hK hH (kX2_isRegister x) ceX2_isRegister mW101 rfl hl.1 rfl (Nat.le_of_ble_eq_true rfl) dX2_show_1 ⟨rfl, rfl, by decide, by decide⟩ ⟨show 0 + 0 ≤ 4 by omega, show 0 + 0 ≤ 141 by omega⟩) hH (fun r1 H locs hp hH => ?_)
  have hq1 : Hid _ := hp
  clear hp
  refine lv_if_eq (tgt := 18) S.1 S.2.1 dX2_show_4 (by decide) (fun c4 => ?_) (fun c4 => ?_)
  · skip
    rcases hq1 with ⟨e, _⟩ | ⟨_, hb⟩
    · rw [e] at c4; exact absurd c4 (by decide)
    refine lv_iconst (v := (-1)) S.1 S.2.1 dX2_show_18 (by decide) ?_
    refine W.widen (k := 4) (n := 141) (by omega) (by omega) ?_
    exact rt_i S hr hlk hH dX2_show_19 (⟨Or.inl rfl, hF, by rw [sShow_bad (ri_none hb)], by rw [sShow_bad (ri_none hb)]; exact ⟨_, _, _, _, P, T, Z, _, ⟨d0, d5, d6, d7, d8, ⟨_, d9⟩, ⟨_, dm⟩, hP, hT, hZ, hpl⟩, hi⟩⟩)
  · skip
    rcases hq1 with ⟨_, j, hj0, rfl⟩ | ⟨e, _⟩
    rotate_left
    · exact absurd e c4
    refine lv_iload_n S.1 S.2.1 dX2_show_7 rfl (lv_at hl 2 rfl) ?_
    refine lv_iconst (v := nI 1) S.1 S.2.1 dX2_show_8 (by decide) ?_
    refine tpi (x' := iI 1) (rfl) ?_
    refine lv_icmp_lt (tgt := 18) S.1 S.2.1 dX2_show_9 (by decide) (fun c9 => ?_) (fun c9 => ?_)
    · skip
      have c9 : z < 1 := (iI_lt (by omega) (by omega)).mp c9
      refine lv_iconst (v := (-1)) S.1 S.2.1 dX2_show_18 (by decide) ?_
      refine W.widen (k := 4) (n := 141) (by omega) (by omega) ?_
      exact rt_i S hr hlk hH dX2_show_19 (⟨Or.inl rfl, hF, by rw [sShow_k hj0 ⟨hz1, hz2⟩ (Or.inl c9)], by rw [sShow_k hj0 ⟨hz1, hz2⟩ (Or.inl c9)]; exact ⟨_, _, _, _, P, T, Z, _, ⟨d0, d5, d6, d7, d8, ⟨_, d9⟩, ⟨_, dm⟩, hP, hT, hZ, hpl⟩, hi⟩⟩)
    · skip
      have c9 : ¬ z < 1 := fun q => c9 ((iI_lt (by omega) (by omega)).mpr q)
      refine lv_iload_n S.1 S.2.1 dX2_show_12 rfl (lv_at hl 2 rfl) ?_
      refine lv_ldc S.1 S.2.1 S.2.2.2.1 (S.2.2.2.2 _ mW104) dX2_show_13 ?_
      refine tpi (x' := nI 99999999) (by decide) ?_
      refine tpi (x' := iI 99999999) (rfl) ?_
      refine lv_icmp_le (tgt := 20) S.1 S.2.1 dX2_show_15 (by decide) (fun c15 => ?_) (fun c15 => ?_)
      · skip
        have c15 : z ≤ 99999999 := (iI_le (by omega) (by omega)).mp c15
        obtain ⟨ra, rae, rai, rav⟩ := hrg j hj0
        have rain := isP_in rai
        have ral := isP_lt (by omega) rai
        refine lv_aload_n S.1 S.2.1 dX2_show_20 rfl (lv_at hl 0 rfl) ?_
        refine lv_aload_n S.1 S.2.1 dX2_show_21 rfl (lv_at hl 0 rfl) ?_
        refine gfX2_14 S hK hH d0 dX2_show_22 ?_
        refine lv_iload_n S.1 S.2.1 dX2_show_25 rfl (lv_at hl 1 rfl) ?_
        refine ald_a S hK hH d5 (by omega) (by omega) (rae) dX2_show_26 ?_
        refine lv_iload_n S.1 S.2.1 dX2_show_27 rfl (lv_at hl 2 rfl) ?_
        refine ck_i (run_V (As := [.ref (ra), .int (iI z)]) (rest := []) S hK hH (kX2_judge D ra z rg hy nums facs P T Z pool σ hd0 hi rai (by omega)) ceX2_judge mW275 d0 rfl rfl hl.1 rfl (Nat.le_of_ble_eq_true rfl) dX2_show_28 ⟨rfl, rfl, by decide, by decide⟩ ⟨show 0 + 4 ≤ 4 by omega, show 0 + 141 ≤ 141 by omega⟩) hH (fun r28 w2 n2 H locs hp hH => ?_)
        obtain ⟨hn1, hfr, hr1, hs1⟩ := hp
        replace hF : ∀ b, (D + 23 ≤ b ∧ b < D + 36) → w2 b = w b := fun b hb => (hfr b hb).trans (hF b hb)
        obtain ⟨rg2, hy2, nums2, facs2, P2, T2, Z2, pool2, hd2, hi2⟩ := hs1
        have hz9 : D + 36 ≤ n2 := hi2.2.1.1
        obtain ⟨d0, d5, d6, d7, d8, ⟨bg, d9⟩, ⟨mf, dm⟩, hP, hT, hZ, hpl⟩ := hd2
        have hbr2 := hi2.1
        unfold BR at hbr2
        refine lv_istore_n (lv' := [(3, .int (r28)), (0, .ref (D)), (1, .int (nI j)), (2, .int (iI z))]) S.1 S.2.1 dX2_show_31 rfl hl (by decide) rfl (fun ls hl => ?_)
        refine lv_aload_n S.1 S.2.1 dX2_show_32 rfl (lv_at hl 1 rfl) ?_
        refine lv_iconst (v := nI 0) S.1 S.2.1 dX2_show_33 (by decide) ?_
        refine pfX2_32 S hK hH d0 dX2_show_34 (fun w3 H locs d0 fr hH => ?_)
        replace d5 := (fr (D + 5) (by omega)).trans d5
        replace d6 := (fr (D + 6) (by omega)).trans d6
        replace d7 := (fr (D + 7) (by omega)).trans d7
        replace d8 := (fr (D + 8) (by omega)).trans d8
        replace d9 := (fr (D + 9) (by omega)).trans d9
        replace dm := (fr (D + 22) (by omega)).trans dm
        replace hP := hP.kept (fun b h1 h2 => fr b (by omega))
        replace hT := hT.kept (fun b h1 h2 => fr b (by omega))
        replace hZ := hZ.kept (fun b h1 h2 => fr b (by omega))
        replace hpl := hpl.kept (fun b h1 h2 => fr b (by omega))
        replace hF : ∀ b, D + 23 ≤ b ∧ b < D + 36 → w3 b = w b := fun b hb => (fr b (by omega)).trans (hF b hb)
        refine lv_iload_n S.1 S.2.1 dX2_show_37 rfl (lv_at hl 0 rfl) ?_
        refine W.widen (k := 4) (n := 141) (by omega) (by omega) ?_
        rw [rav] at hr1
        exact rt_i S hr hlk hH dX2_show_38 (⟨hn1, hF, by rw [sShow_ok hj0 ⟨hz1, hz2⟩ (by omega)]; exact hr1, by rw [sShow_ok hj0 ⟨hz1, hz2⟩ (by omega)]; exact ⟨_, _, _, _, P2, T2, Z2, _, ⟨d0, d5, d6, d7, d8, ⟨_, d9⟩, ⟨_, dm⟩, hP, hT, hZ, hpl⟩, none_I hi2⟩⟩)
      · skip
        have c15 : ¬ z ≤ 99999999 := fun q => c15 ((iI_le (by omega) (by omega)).mpr q)
        refine lv_iconst (v := (-1)) S.1 S.2.1 dX2_show_18 (by decide) ?_
        refine W.widen (k := 4) (n := 141) (by omega) (by omega) ?_
        exact rt_i S hr hlk hH dX2_show_19 (⟨Or.inl rfl, hF, by rw [sShow_k hj0 ⟨hz1, hz2⟩ (Or.inr (by omega))], by rw [sShow_k hj0 ⟨hz1, hz2⟩ (Or.inr (by omega))]; exact ⟨_, _, _, _, P, T, Z, _, ⟨d0, d5, d6, d7, d8, ⟨_, d9⟩, ⟨_, dm⟩, hP, hT, hZ, hpl⟩, hi⟩⟩)

set_option maxHeartbeats 4000000 in
set_option maxRecDepth 100000 in
theorem kX2_init {l : Launch} {G : Gx} {B : Nat} {w : Wm} {n : Nat} (D : Nat) (d0 : w D = some (eO 2 [.null, .null, .int 0, .null, .null, .int 0, .null])) (hn : n = D + 1) : Met l yX2_init (wsM yX2_init cX2_init 3 none) ({ frames := 3, cells := 22, slots := 785, locals := 63 } : Room) (Pcx G B w n [.ref (D)]) (Qv G B (fun w' n' => n' = D + 23 ∧ (∀ b, (b < D ∨ D + 23 ≤ b) → w' b = w b) ∧ DeskN G w' D)) 22 785 (FA B) := by
  refine en (by decide) (Nat.le_of_ble_eq_true rfl) ?_
  intro p ev s mm ag bl mt co S hr hlk hnm hK H hH ls hl
  have hl : lv_has ls 3 [(0, .ref (D))] := hl
  subst hn
  have hF : ∀ b, b < D ∨ D + 23 ≤ b → w b = w b := fun _ _ => rfl
  refine lv_aload_n S.1 S.2.1 dX2_init_0 rfl (lv_at hl 0 rfl) ?_
  refine W.objInit S.1 S.2.1 S.2.2.2.1 (S.2.2.2.2 _ mW11) (S.2.2.2.2 _ mW12) (S.2.2.2.2 _ mW13) rfl (hl.1.trans S.2.2.1.symm) rfl dX2_init_1 (by decide) (Nat.le_of_ble_eq_true rfl) ?_
  refine W.eq (g2 := F0 mm 4 ls []) rfl ?_
  refine nwo (ci := 1) (fs := [.null, .null, .int (0), .null, .int (0)]) S hK hH rfl fwX1 tyX1 tyX1_ok mW14 mW15 mW2 (fun j hj => by rcases (show j = 0 ∨ j = 1 ∨ j = 2 ∨ j = 3 ∨ j = 4 by omega) with rfl | rfl | rfl | rfl | rfl <;> rfl) (show 0 + 1 ≤ 22 by omega) (show 0 + 5 ≤ 785 by omega) dX2_init_4 (fun w1 H hz0 fr hH => ?_)
  replace d0 := (fr (D) (by omega)).trans d0
  replace hF : ∀ b, b < D ∨ D + 23 ≤ b → w1 b = w b := fun b hb => (fr b (by omega)).trans (hF b hb)
  refine lv_dup S.1 S.2.1 dX2_init_7 rfl ?_
  refine lv_iconst (v := nI 0) S.1 S.2.1 dX2_init_8 (by decide) ?_
  refine ck_v (run_IN (As := [.int (nI 0)]) (rest := [.ref (D + 1)]) S hK hH (kX1_init (D + 1) 0 hz0 (by omega) rfl) ceX1_init mN16 rfl hl.1 rfl (Nat.le_of_ble_eq_true rfl) dX2_init_9 ⟨rfl, rfl, by decide, by decide⟩ ⟨show (0 + 1) + 3 ≤ 22 by omega, show (0 + 5) + 136 ≤ 785 by omega⟩) hH (fun w3 n3 H locs hp hH => ?_)
  obtain ⟨hn1, hfr, hz⟩ := hp
  rw [hn1] at hH
  replace d0 := (hfr (D) (by omega)).trans d0
  replace hF : ∀ b, b < D ∨ D + 23 ≤ b → w3 b = w b := fun b hb => (hfr b (by omega)).trans (hF b hb)
  refine lv_astore_n (lv' := [(1, .ref (D + 1)), (0, .ref (D))]) S.1 S.2.1 dX2_init_12 rfl hl (by decide) rfl (fun ls hl => ?_)
  refine lv_aload_n S.1 S.2.1 dX2_init_13 rfl (lv_at hl 1 rfl) ?_
  refine lv_bipush (v := nI 16) S.1 S.2.1 dX2_init_14 (by decide) ?_
  refine nwa_q S hK hH mW14 (by omega) (show ((0 + 1) + 3) + 1 ≤ 22 by omega) (show ((0 + 5) + 136) + (16) ≤ 785 by omega) dX2_init_16 (fun w4 H d5 fr hH => ?_)
  replace d0 := (fr (D) (by omega)).trans d0
  replace hz := hz.kept (fun b h1 h2 => fr b (by omega))
  replace hF : ∀ b, b < D ∨ D + 23 ≤ b → w4 b = w b := fun b hb => (fr b (by omega)).trans (hF b hb)
  refine pfX2_14 S hK hH d0 hnm dX2_init_19 (fun w6 H locs d0 fr hH => ?_)
  replace d5 := (fr (D + 5) (by omega)).trans d5
  replace hz := hz.kept (fun b h1 h2 => fr b (by omega))
  replace hF : ∀ b, b < D ∨ D + 23 ≤ b → w6 b = w b := fun b hb => (fr b (by omega)).trans (hF b hb)
  refine lv_iconst (v := nI 0) S.1 S.2.1 dX2_init_22 (by decide) ?_
  refine lv_istore_n (lv' := [(2, .int (nI 0)), (1, .ref (D + 1)), (0, .ref (D))]) S.1 S.2.1 dX2_init_23 rfl hl (by decide) rfl (fun ls hl => ?_)
  refine wlp (P := fun k_ ls H' locs' => ∃ (i : Nat) (rg : Nat → Option Nat) (v : Wm), lv_has ls 3 [(0, .ref (D)), (1, .ref (D + 1)), (2, .int (nI i))] ∧ HS G B v (D + 6) s H' locs' ∧ v (D) = some (eO 2 [.ref (D + 5), .null, .int (0), .null, .null, .int (0), .null]) ∧ v (D + 5) = some (eQ G (16) (rg)) ∧ (PolyC G v (D + 1) 0 [] 0 (fun _ => 0)) ∧ (∀ b, b < D ∨ D + 23 ≤ b → v b = w b) ∧ (i ≤ 16) ∧ (∀ u, u < i → rg u = some (D + 1)) ∧ k_ = 16 - i) ?_ (k0 := 16 - (0)) ⟨0, _, w6, lv_sub hl [2, 1, 0] rfl, hH, d0, d5, hz, hF, by omega, fun u h => absurd h (Nat.not_lt_zero u), rfl⟩
  intro k24 ls H locs hP ih24
  obtain ⟨i, rg, v, hl, hH, d0, d5, hz, hF, hi, hrg, hk24⟩ := hP
  refine lv_iload_n S.1 S.2.1 dX2_init_24 rfl (lv_at hl 2 rfl) ?_
  refine lv_bipush (v := nI 16) S.1 S.2.1 dX2_init_25 (by decide) ?_
  refine bn_ge (tgt := 43) S dX2_init_27 (by decide) (by omega) (fun c27 => ?_) (fun c27 => ?_)
  · skip
    refine lv_aload_n S.1 S.2.1 dX2_init_43 rfl (lv_at hl 0 rfl) ?_
    refine lv_bipush (v := nI 40) S.1 S.2.1 dX2_init_44 (by decide) ?_
    refine nwa_q S hK hH mW14 (by omega) (show (((0 + 1) + 3) + 1) + 1 ≤ 22 by omega) (show (((0 + 5) + 136) + (16)) + (40) ≤ 785 by omega) dX2_init_46 (fun w7 H d6 fr hH => ?_)
    replace d0 := (fr (D) (by omega)).trans d0
    replace d5 := (fr (D + 5) (by omega)).trans d5
    replace hz := hz.kept (fun b h1 h2 => fr b (by omega))
    replace hF : ∀ b, b < D ∨ D + 23 ≤ b → w7 b = w b := fun b hb => (fr b (by omega)).trans (hF b hb)
    refine pfX2_18 S hK hH d0 hnm dX2_init_49 (fun w9 H locs d0 fr hH => ?_)
    replace d5 := (fr (D + 5) (by omega)).trans d5
    replace d6 := (fr (D + 6) (by omega)).trans d6
    replace hz := hz.kept (fun b h1 h2 => fr b (by omega))
    replace hF : ∀ b, b < D ∨ D + 23 ≤ b → w9 b = w b := fun b hb => (fr b (by omega)).trans (hF b hb)
    refine lv_iconst (v := nI 0) S.1 S.2.1 dX2_init_52 (by decide) ?_
    refine lv_istore_n (lv' := [(2, .int (nI 0)), (0, .ref (D)), (1, .ref (D + 1))]) S.1 S.2.1 dX2_init_53 rfl hl (by decide) rfl (fun ls hl => ?_)
    refine wlp (P := fun k_ ls H' locs' => ∃ (i : Nat) (hy : Nat → Option Nat) (v : Wm), lv_has ls 3 [(0, .ref (D)), (1, .ref (D + 1)), (2, .int (nI i))] ∧ HS G B v (D + 7) s H' locs' ∧ v (D) = some (eO 2 [.ref (D + 5), .ref (D + 6), .int (0), .null, .null, .int (0), .null]) ∧ v (D + 5) = some (eQ G (16) (rg)) ∧ v (D + 6) = some (eQ G (40) (hy)) ∧ (PolyC G v (D + 1) 0 [] 0 (fun _ => 0)) ∧ (∀ b, b < D ∨ D + 23 ≤ b → v b = w b) ∧ (i ≤ 40) ∧ k_ = 40 - i) ?_ (k0 := 40 - (0)) ⟨0, _, w9, lv_sub hl [1, 2, 0] rfl, hH, d0, d5, d6, hz, hF, by omega, rfl⟩
    intro k54 ls H locs hP ih54
    obtain ⟨i, hy, v, hl, hH, d0, d5, d6, hz, hF, hi, hk54⟩ := hP
    refine lv_iload_n S.1 S.2.1 dX2_init_54 rfl (lv_at hl 2 rfl) ?_
    refine lv_bipush (v := nI 40) S.1 S.2.1 dX2_init_55 (by decide) ?_
    refine bn_ge (tgt := 73) S dX2_init_57 (by decide) (by omega) (fun c57 => ?_) (fun c57 => ?_)
    · skip
      refine lv_aload_n S.1 S.2.1 dX2_init_73 rfl (lv_at hl 0 rfl) ?_
      refine lv_iconst (v := nI 0) S.1 S.2.1 dX2_init_74 (by decide) ?_
      refine pfX2_21 S hK hH d0 dX2_init_75 (fun w10 H locs d0 fr hH => ?_)
      replace d5 := (fr (D + 5) (by omega)).trans d5
      replace d6 := (fr (D + 6) (by omega)).trans d6
      replace hz := hz.kept (fun b h1 h2 => fr b (by omega))
      replace hF : ∀ b, b < D ∨ D + 23 ≤ b → w10 b = w b := fun b hb => (fr b (by omega)).trans (hF b hb)
      refine lv_aload_n S.1 S.2.1 dX2_init_78 rfl (lv_at hl 0 rfl) ?_
      refine lv_bipush (v := nI 20) S.1 S.2.1 dX2_init_79 (by decide) ?_
      refine nwa_i S hK hH mW47 (by omega) (show ((((0 + 1) + 3) + 1) + 1) + 1 ≤ 22 by omega) (show ((((0 + 5) + 136) + (16)) + (40)) + (20) ≤ 785 by omega) dX2_init_81 (fun w11 H d7 fr hH => ?_)
      replace d0 := (fr (D) (by omega)).trans d0
      replace d5 := (fr (D + 5) (by omega)).trans d5
      replace d6 := (fr (D + 6) (by omega)).trans d6
      replace hz := hz.kept (fun b h1 h2 => fr b (by omega))
      replace hF : ∀ b, b < D ∨ D + 23 ≤ b → w11 b = w b := fun b hb => (fr b (by omega)).trans (hF b hb)
      refine pfX2_25 S hK hH d0 hnm dX2_init_83 (fun w13 H locs d0 fr hH => ?_)
      replace d5 := (fr (D + 5) (by omega)).trans d5
      replace d6 := (fr (D + 6) (by omega)).trans d6
      replace d7 := (fr (D + 7) (by omega)).trans d7
      replace hz := hz.kept (fun b h1 h2 => fr b (by omega))
      replace hF : ∀ b, b < D ∨ D + 23 ≤ b → w13 b = w b := fun b hb => (fr b (by omega)).trans (hF b hb)
      refine lv_aload_n S.1 S.2.1 dX2_init_86 rfl (lv_at hl 0 rfl) ?_
      refine lv_bipush (v := nI 80) S.1 S.2.1 dX2_init_87 (by decide) ?_
      refine nwa_i S hK hH mW47 (by omega) (show (((((0 + 1) + 3) + 1) + 1) + 1) + 1 ≤ 22 by omega) (show (((((0 + 5) + 136) + (16)) + (40)) + (20)) + (80) ≤ 785 by omega) dX2_init_89 (fun w14 H d8 fr hH => ?_)
      replace d0 := (fr (D) (by omega)).trans d0
      replace d5 := (fr (D + 5) (by omega)).trans d5
      replace d6 := (fr (D + 6) (by omega)).trans d6
      replace d7 := (fr (D + 7) (by omega)).trans d7
      replace hz := hz.kept (fun b h1 h2 => fr b (by omega))
      replace hF : ∀ b, b < D ∨ D + 23 ≤ b → w14 b = w b := fun b hb => (fr b (by omega)).trans (hF b hb)
      refine pfX2_29 S hK hH d0 hnm dX2_init_91 (fun w16 H locs d0 fr hH => ?_)
      replace d5 := (fr (D + 5) (by omega)).trans d5
      replace d6 := (fr (D + 6) (by omega)).trans d6
      replace d7 := (fr (D + 7) (by omega)).trans d7
      replace d8 := (fr (D + 8) (by omega)).trans d8
      replace hz := hz.kept (fun b h1 h2 => fr b (by omega))
      replace hF : ∀ b, b < D ∨ D + 23 ≤ b → w16 b = w b := fun b hb => (fr b (by omega)).trans (hF b hb)
      refine lv_aload_n S.1 S.2.1 dX2_init_94 rfl (lv_at hl 0 rfl) ?_
      refine lv_iconst (v := nI 0) S.1 S.2.1 dX2_init_95 (by decide) ?_
      refine pfX2_32 S hK hH d0 dX2_init_96 (fun w17 H locs d0 fr hH => ?_)
      replace d5 := (fr (D + 5) (by omega)).trans d5
      replace d6 := (fr (D + 6) (by omega)).trans d6
      replace d7 := (fr (D + 7) (by omega)).trans d7
      replace d8 := (fr (D + 8) (by omega)).trans d8
      replace hz := hz.kept (fun b h1 h2 => fr b (by omega))
      replace hF : ∀ b, b < D ∨ D + 23 ≤ b → w17 b = w b := fun b hb => (fr b (by omega)).trans (hF b hb)
      refine lv_aload_n S.1 S.2.1 dX2_init_99 rfl (lv_at hl 0 rfl) ?_
      refine nwo (ci := 0) (fs := [.null, .null, .null, .null, .int (0)]) S hK hH rfl fwX0 tyX0 tyX0_ok mW49 mW50 mW4 (fun j hj => by rcases (show j = 0 ∨ j = 1 ∨ j = 2 ∨ j = 3 ∨ j = 4 by omega) with rfl | rfl | rfl | rfl | rfl <;> rfl) (show ((((((0 + 1) + 3) + 1) + 1) + 1) + 1) + 1 ≤ 22 by omega) (show ((((((0 + 5) + 136) + (16)) + (40)) + (20)) + (80)) + 5 ≤ 785 by omega) dX2_init_100 (fun w18 H hb0 fr hH => ?_)
      replace d0 := (fr (D) (by omega)).trans d0
      replace d5 := (fr (D + 5) (by omega)).trans d5
      replace d6 := (fr (D + 6) (by omega)).trans d6
      replace d7 := (fr (D + 7) (by omega)).trans d7
      replace d8 := (fr (D + 8) (by omega)).trans d8
      replace hz := hz.kept (fun b h1 h2 => fr b (by omega))
      replace hF : ∀ b, b < D ∨ D + 23 ≤ b → w18 b = w b := fun b hb => (fr b (by omega)).trans (hF b hb)
      refine lv_dup S.1 S.2.1 dX2_init_103 rfl ?_
      refine ck_v (run_IN (As := []) (rest := [.ref (D + 9), .ref (D)]) S hK hH (kX0_init (D + 9) hb0 rfl) ceX0_init mN51 rfl hl.1 rfl (Nat.le_of_ble_eq_true rfl) dX2_init_104 ⟨rfl, rfl, by decide, by decide⟩ ⟨show (((((((0 + 1) + 3) + 1) + 1) + 1) + 1) + 1) + 13 ≤ 22 by omega, show (((((((0 + 5) + 136) + (16)) + (40)) + (20)) + (80)) + 5) + 483 ≤ 785 by omega⟩) hH (fun w20 n20 H locs hp hH => ?_)
      obtain ⟨hn1, hfr, ⟨bg, d9⟩, ⟨mf, dm⟩, ha1, ha2, ha3⟩ := hp
      rw [hn1] at hH
      replace d0 := (hfr (D) (by omega)).trans d0
      replace d5 := (hfr (D + 5) (by omega)).trans d5
      replace d6 := (hfr (D + 6) (by omega)).trans d6
      replace d7 := (hfr (D + 7) (by omega)).trans d7
      replace d8 := (hfr (D + 8) (by omega)).trans d8
      replace hz := hz.kept (fun b h1 h2 => hfr b (by omega))
      replace hF : ∀ b, b < D ∨ D + 23 ≤ b → w20 b = w b := fun b hb => (hfr b (by omega)).trans (hF b hb)
      refine pfX2_38 S hK hH d0 hnm dX2_init_107 (fun w21 H locs d0 fr hH => ?_)
      replace d5 := (fr (D + 5) (by omega)).trans d5
      replace d6 := (fr (D + 6) (by omega)).trans d6
      replace d7 := (fr (D + 7) (by omega)).trans d7
      replace d8 := (fr (D + 8) (by omega)).trans d8
      replace d9 := (fr (D + 9) (by omega)).trans d9
      replace dm := (fr (D + 9 + 13) (by omega)).trans dm
      replace hz := hz.kept (fun b h1 h2 => fr b (by omega))
      replace ha1 := ha1.kept (fun b h1 h2 => fr b (by omega))
      replace ha2 := ha2.kept (fun b h1 h2 => fr b (by omega))
      replace ha3 := ha3.kept (fun b h1 h2 => fr b (by omega))
      replace hF : ∀ b, b < D ∨ D + 23 ≤ b → w21 b = w b := fun b hb => (fr b (by omega)).trans (hF b hb)
      refine W.widen (k := 22) (n := 785) (by omega) (by omega) ?_
      exact rt_v S hr hlk hH dX2_init_110 (⟨rfl, hF, rg, hy, _, _, bg, mf, d0, d5, d6, d7, d8, d9, dm, ha1, ha2, ha3, ⟨_, _, hz, fun e => absurd e (by decide)⟩, fun u hu => hrg u (by omega)⟩)
    · skip
      refine lv_aload_n S.1 S.2.1 dX2_init_60 rfl (lv_at hl 0 rfl) ?_
      refine gfX2_18 S hK hH d0 dX2_init_61 ?_
      refine lv_iload_n S.1 S.2.1 dX2_init_64 rfl (lv_at hl 2 rfl) ?_
      refine lv_aload_n S.1 S.2.1 dX2_init_65 rfl (lv_at hl 1 rfl) ?_
      refine ast_a S hK hH d6 hz.ob (by omega) (by omega) dX2_init_66 (fun w22 H locs d6 fr hH => ?_)
      replace d0 := (fr (D) (by omega)).trans d0
      replace d5 := (fr (D + 5) (by omega)).trans d5
      replace hz := hz.kept (fun b h1 h2 => fr b (by omega))
      replace hF : ∀ b, b < D ∨ D + 23 ≤ b → w22 b = w b := fun b hb => (fr b (by omega)).trans (hF b hb)
      refine lv_iinc (v := nI (i + 1)) (lv' := [(2, .int (nI (i + 1))), (0, .ref (D)), (1, .ref (D + 1))]) S.1 S.2.1 dX2_init_67 hl (k := 2) rfl (nI_inc _ 1) (by decide) rfl (fun ls hl => ?_)
      refine lv_goto (tgt := 54) S.1 S.2.1 dX2_init_70 (by decide) ?_
      exact ih54 _ _ _ _ (by omega) ⟨i + 1, _, w22, lv_sub hl [1, 2, 0] rfl, hH, d0, d5, d6, hz, hF, by omega, rfl⟩
  · skip
    refine lv_aload_n S.1 S.2.1 dX2_init_30 rfl (lv_at hl 0 rfl) ?_
    refine gfX2_14 S hK hH d0 dX2_init_31 ?_
    refine lv_iload_n S.1 S.2.1 dX2_init_34 rfl (lv_at hl 2 rfl) ?_
    refine lv_aload_n S.1 S.2.1 dX2_init_35 rfl (lv_at hl 1 rfl) ?_
    refine ast_a S hK hH d5 hz.ob (by omega) (by omega) dX2_init_36 (fun w23 H locs d5 fr hH => ?_)
    replace d0 := (fr (D) (by omega)).trans d0
    replace hz := hz.kept (fun b h1 h2 => fr b (by omega))
    replace hF : ∀ b, b < D ∨ D + 23 ≤ b → w23 b = w b := fun b hb => (fr b (by omega)).trans (hF b hb)
    refine lv_iinc (v := nI (i + 1)) (lv' := [(2, .int (nI (i + 1))), (0, .ref (D)), (1, .ref (D + 1))]) S.1 S.2.1 dX2_init_37 hl (k := 2) rfl (nI_inc _ 1) (by decide) rfl (fun ls hl => ?_)
    refine lv_goto (tgt := 24) S.1 S.2.1 dX2_init_40 (by decide) ?_
    exact ih24 _ _ _ _ (by omega) ⟨i + 1, _, w23, lv_sub hl [1, 2, 0] rfl, hH, d0, d5, hz, hF, by omega, lt_s (fun u h => by rw [va_up_ne _ _ (by omega)]; exact hrg u h) (va_up_self _ _ _), rfl⟩

