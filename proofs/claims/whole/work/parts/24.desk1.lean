/-- a fact that the arithmetic need not see -/
def Hid (p : Prop) : Prop := p
theorem store_I {D n r : Nat} {rg hy : Nat → Option Nat} {nums facs : Nat → Int32} {P T Z : Nat} {pool : Nat → Nat × PL} {σ : St} {M : PL} (hi : DeskI D n rg hy nums facs P T Z pool σ) (hr : r < 16) : DeskI D (n + 4) (va_up rg r (some n)) hy nums facs P T Z (va_up pool n (M.length, M)) (va_up σ.1 r M, σ.2) := by
  obtain ⟨hbr, hj, hhc, hpc, hrg, hhy, hnu, hfa⟩ := hi
  have old : ∀ a, isP D n a → isP D (n + 4) a ∧ va_up pool n (M.length, M) a = pool a := fun a ha => by
    have := isP_lt (by omega) ha
    exact ⟨isP_up (by omega) ha, va_up_ne _ _ (by omega)⟩
  refine ⟨hbr, by omega, hhc, hpc, fun i hi => ?_, fun i hi => ?_, hnu, hfa⟩
  · by_cases q : i = r
    · subst q
      exact ⟨n, va_up_self _ _ _, Or.inr ⟨hj.1, hj.2, Nat.le_refl _⟩, by rw [va_up_self]; exact (va_up_self _ _ _).symm⟩
    · obtain ⟨a, h1, h2, h3⟩ := hrg i hi
      exact ⟨a, by rw [va_up_ne _ _ q]; exact h1, (old a h2).1, by rw [(old a h2).2, h3]; exact (va_up_ne _ _ q).symm⟩
  · obtain ⟨a, h1, h2, h3⟩ := hhy i hi
    exact ⟨a, h1, (old a h2).1, by rw [(old a h2).2, h3]⟩
section SC
variable {sg : Int} {σ : St} {x a b : Int32} {j p q : Nat}
theorem sComb_bad (h : ri x = none ∨ ri a = none ∨ ri b = none) : sComb sg σ x a b = (-1, σ) := by
  unfold sComb
  rcases h with h | h | h <;> rw [h] <;> cases ri x <;> cases ri a <;> cases ri b <;> rfl
theorem sComb_none (hj : j < 16) (hp : p < 16) (hq : q < 16) (e : padd sg (σ.1 p) (σ.1 q) = none) : sComb sg σ (nI j) (nI p) (nI q) = (-2, σ) := by
  rw [sComb, ri_some hj, ri_some hp, ri_some hq]; simp only [e]
theorem sComb_some {M : PL} (hj : j < 16) (hp : p < 16) (hq : q < 16) (e : padd sg (σ.1 p) (σ.1 q) = some M) : sComb sg σ (nI j) (nI p) (nI q) = (nI M.length, (va_up σ.1 j M, σ.2)) := by
  rw [sComb, ri_some hj, ri_some hp, ri_some hq]; simp only [e]
end SC
theorem sym_mul {i t : Nat} (h : t + 1 ≤ i) : lN (10 ^ (i - (t + 1))) * lI 10 = lN (10 ^ (i + 1 - (t + 1))) := by
  rw [lI10, lN_mul, ← Nat.pow_succ, show (i - (t + 1)).succ = i + 1 - (t + 1) by omega]
theorem sym_add {i t : Nat} (ht : t < 16) (h : i = 16) : lI 10000000000000000 + lN (10 ^ (i - (t + 1))) = lN (scode t) := by
  rw [lI16, lN_add, scode, h, show 16 - (t + 1) = 15 - t by omega]
theorem br_sw {D P T Z : Nat} (h : BR D P T Z) : BR D Z T P := by
  unfold BR at h ⊢
  omega
theorem cA_in {L : PL} {k : Nat} {r : Int32} (h : (∃ j, j < L.length ∧ nI k = nI j ∧ r = iI (cf L j)) ∨ ((¬ ∃ j, j < L.length ∧ nI k = nI j) ∧ r = 0)) (hk : k < L.length) (hl : L.length < 2 ^ 31) : iI (cf L k) = r := by
  rcases h with ⟨j, h1, h2, h3⟩ | ⟨h1, _⟩
  · rw [(nI_eq (by omega) (by omega)).mp h2, h3]
  · exact absurd ⟨k, hk, rfl⟩ h1
theorem pA_in {L : PL} {k t : Nat} {r : Int32} (h : (∃ j u, j < L.length ∧ u < 16 ∧ nI k = nI j ∧ nI t = nI u ∧ r = nI (dig (cd L j) u)) ∨ ((¬ ∃ j u, j < L.length ∧ u < 16 ∧ nI k = nI j ∧ nI t = nI u) ∧ r = 0)) (hk : k < L.length) (ht : t < 16) (hl : L.length < 2 ^ 31) : nI (dig (cd L k) t) = r := by
  rcases h with ⟨j, u, h1, h2, h3, h4, h5⟩ | ⟨h1, _⟩
  · rw [(nI_eq (by omega) (by omega)).mp h3, (nI_eq (by omega) (by omega)).mp h4, h5]
  · exact absurd ⟨k, t, hk, ht, rfl, rfl⟩ h1
section WT
variable {R : Nat → PL} {c s i : Nat} {A M : PL}
theorem wt_beg (h : s < 16) : wt R c (16 - s) A = (pwr (R s) (dig c s - 0) A).bind (wt R c (15 - s)) := by
  rw [show 16 - s = (15 - s) + 1 by omega, wt, show 15 - (15 - s) = s by omega]; rfl
theorem wt_end (h : s < 16) (hi : dig c s ≤ i) : (pwr (R s) (dig c s - i) A).bind (wt R c (15 - s)) = wt R c (16 - (s + 1)) A := by
  rw [show dig c s - i = 0 by omega, show 16 - (s + 1) = 15 - s by omega]; rfl
theorem pwr_some {F : PL} {p : Nat} {f : PL → Option PL} (h : i < p) (e : pmul A F = some M) : (pwr F (p - i) A).bind f = (pwr F (p - (i + 1)) M).bind f := by
  rw [show p - i = (p - (i + 1)) + 1 by omega, pwr, e]; rfl
theorem pwr_none {F : PL} {p : Nat} {f : PL → Option PL} (h : i < p) (e : pmul A F = none) : (pwr F (p - i) A).bind f = none := by
  rw [show p - i = (p - (i + 1)) + 1 by omega, pwr, e]; rfl
end WT

set_option maxHeartbeats 4000000 in
set_option maxRecDepth 100000 in
theorem kX2_store {l : Launch} {G : Gx} {B : Nat} {w : Wm} {n : Nat} (D r v : Nat) (M : PL) (rg hy : Nat → Option Nat) (nums facs : Nat → Int32) (P T Z : Nat) (pool : Nat → Nat × PL) (σ : St) (hd : DeskC G w n D rg hy σ.2.2.1 nums facs σ.2.2.2.2.2 P T Z pool) (hi : DeskI D n rg hy nums facs P T Z pool σ) (hv : PolyAt G w v 60 M) (hvv : v = P ∨ v = T) (ok : okP M) (hr0 : r < 16) : Met l yX2_store (wsM yX2_store cX2_store 3 (some .int)) ({ frames := 3, cells := 4, slots := 141, locals := 65 } : Room) (Pcx G B w n [.ref (D), .int (nI r), .ref (v)]) (Qi G B (fun x w' n' => n' = n + 4 ∧ (∀ b, (D + 23 ≤ b ∧ b < D + 36) → w' b = w b) ∧ x = nI M.length ∧ DeskS G w' (n + 4) D (va_up σ.1 r M, σ.2))) 4 141 (FA B) := by
  refine en (by decide) (Nat.le_of_ble_eq_true rfl) ?_
  intro p ev s mm ag bl mt co S hr hlk hnm hK H hH ls hl
  have hl : lv_has ls 3 [(0, .ref (D)), (1, .int (nI r)), (2, .ref (v))] := hl
  obtain ⟨d0, d5, d6, d7, d8, ⟨bg, d9⟩, ⟨mf, dm⟩, hP, hT, hZ, hpl⟩ := hd
  obtain ⟨hbr, hj, hhc, hpc, hrg, hhy, hnu, hfa⟩ := id hi
  unfold BR at hbr
  obtain ⟨kv, pv, hv1, _⟩ := hv
  have hF : ∀ b, D + 23 ≤ b ∧ b < D + 36 → w b = w b := fun _ _ => rfl
  refine lv_aload_n S.1 S.2.1 dX2_store_0 rfl (lv_at hl 0 rfl) ?_
  refine gfX2_14 S hK hH d0 dX2_store_1 ?_
  refine lv_iload_n S.1 S.2.1 dX2_store_4 rfl (lv_at hl 1 rfl) ?_
  refine lv_aload_n S.1 S.2.1 dX2_store_5 rfl (lv_at hl 2 rfl) ?_
  refine ck_r (run_VN (As := []) (rest := [.int (nI r), .ref (D + 5)]) S hK hH (kX1_copied v 60 M kv pv hv1 ok.ok (by omega)) ceX1_copied mN124 hv1.ob rfl rfl hl.1 rfl (Nat.le_of_ble_eq_true rfl) dX2_store_6 ⟨rfl, rfl, by decide, by decide⟩ ⟨show 0 + 4 ≤ 4 by omega, show 0 + 141 ≤ 141 by omega⟩) hH (fun r6 w1 n1 H locs hp hH => ?_)
  obtain ⟨hr1, hn1, hfr, hnew⟩ := hp
  rw [hn1] at hH
  have hr1 := hr1.symm
  subst hr1
  have hpl := hpl.push hj (M := M) ⟨0, _, hnew, fun e => absurd e (by decide)⟩ ok (fun b h1 h2 h3 => hfr b (by omega))
  replace d0 := (hfr (D) (by omega)).trans d0
  replace d5 := (hfr (D + 5) (by omega)).trans d5
  replace d6 := (hfr (D + 6) (by omega)).trans d6
  replace d7 := (hfr (D + 7) (by omega)).trans d7
  replace d8 := (hfr (D + 8) (by omega)).trans d8
  replace d9 := (hfr (D + 9) (by omega)).trans d9
  replace dm := (hfr (D + 22) (by omega)).trans dm
  replace hP := hP.kept (fun b h1 h2 => hfr b (by omega))
  replace hT := hT.kept (fun b h1 h2 => hfr b (by omega))
  replace hZ := hZ.kept (fun b h1 h2 => hfr b (by omega))
  replace hv1 := hv1.kept (fun b h1 h2 => hfr b (by omega))
  replace hF : ∀ b, D + 23 ≤ b ∧ b < D + 36 → w1 b = w b := fun b hb => (hfr b (by omega)).trans (hF b hb)
  refine ast_a S hK hH d5 hnew.ob (by omega) (by omega) dX2_store_9 (fun w2 H locs d5 fr hH => ?_)
  replace d0 := (fr (D) (by omega)).trans d0
  replace d6 := (fr (D + 6) (by omega)).trans d6
  replace d7 := (fr (D + 7) (by omega)).trans d7
  replace d8 := (fr (D + 8) (by omega)).trans d8
  replace d9 := (fr (D + 9) (by omega)).trans d9
  replace dm := (fr (D + 22) (by omega)).trans dm
  replace hP := hP.kept (fun b h1 h2 => fr b (by omega))
  replace hT := hT.kept (fun b h1 h2 => fr b (by omega))
  replace hZ := hZ.kept (fun b h1 h2 => fr b (by omega))
  replace hpl := hpl.kept (fun b h1 h2 => fr b (by omega))
  replace hv1 := hv1.kept (fun b h1 h2 => fr b (by omega))
  replace hnew := hnew.kept (fun b h1 h2 => fr b (by omega))
  replace hF : ∀ b, D + 23 ≤ b ∧ b < D + 36 → w2 b = w b := fun b hb => (fr b (by omega)).trans (hF b hb)
  refine lv_aload_n S.1 S.2.1 dX2_store_10 rfl (lv_at hl 2 rfl) ?_
  refine gfX2_78 S hK hH hv1.ob dX2_store_11 ?_
  refine W.widen (k := 4) (n := 141) (by omega) (by omega) ?_
  exact rt_i S hr hlk hH dX2_store_14 (⟨rfl, hF, rfl, _, _, _, _, P, T, Z, _, ⟨d0, d5, d6, d7, d8, ⟨_, d9⟩, ⟨_, dm⟩, hP, hT, hZ, hpl⟩, store_I hi hr0⟩)

set_option maxHeartbeats 4000000 in
set_option maxRecDepth 100000 in
theorem kX2_combine {l : Launch} {G : Gx} {B : Nat} {w : Wm} {n : Nat} (D : Nat) (x a b : Int32) (sg : Int) (σ : St) (hs : DeskS G w n D σ) (hsg : sg = 1 ∨ sg = -1) : Met l yX2_combine (wsM yX2_combine cX2_combine 5 (some .int)) ({ frames := 4, cells := 4, slots := 141, locals := 87 } : Room) (Pcx G B w n [.ref (D), .int (x), .int (a), .int (b), .int (iI sg)]) (Qi G B (fun r w' n' => (n' = n ∨ n' = n + 4) ∧ (∀ b, (D + 23 ≤ b ∧ b < D + 36) → w' b = w b) ∧ r = (sComb sg σ x a b).1 ∧ DeskS G w' n' D (sComb sg σ x a b).2)) 4 141 (FA B) := by
  refine en (by decide) (Nat.le_of_ble_eq_true rfl) ?_
  intro p ev s mm ag bl mt co S hr hlk hnm hK H hH ls hl
  have hl : lv_has ls 5 [(0, .ref (D)), (1, .int (x)), (2, .int (a)), (3, .int (b)), (4, .int (iI sg))] := hl
  obtain ⟨rg, hy, nums, facs, P, T, Z, pool, hd, hi⟩ := hs
  obtain ⟨d0, d5, d6, d7, d8, ⟨bg, d9⟩, ⟨mf, dm⟩, hP, hT, hZ, hpl⟩ := hd
  obtain ⟨hbr, hj, hhc, hpc, hrg, hhy, hnu, hfa⟩ := id hi
  unfold BR at hbr
  have hF : ∀ b, D + 23 ≤ b ∧ b < D + 36 → w b = w b := fun _ _ => rfl
  refine lv_iload_n S.1 S.2.1 dX2_combine_0 rfl (lv_at hl 1 rfl) ?_
  refine ck_ip (run_S (As := [.int (x)]) (rest := []) S hK hH (kX2_isRegister x) ceX2_isRegister mW101 rfl hl.1 rfl (Nat.le_of_ble_eq_true rfl) dX2_combine_1 ⟨rfl, rfl, by decide, by decide⟩ ⟨show 0 + 0 ≤ 4 by omega, show 0 + 0 ≤ 141 by omega⟩) hH (fun r1 H locs hp hH => ?_)
  have hq1 : Hid _ := hp
  clear hp
  refine lv_if_eq (tgt := 21) S.1 S.2.1 dX2_combine_4 (by decide) (fun c4 => ?_) (fun c4 => ?_)
  · skip
    rcases hq1 with ⟨e, _⟩ | ⟨_, hb⟩
    · rw [e] at c4; exact absurd c4 (by decide)
    refine lv_iconst (v := (-1)) S.1 S.2.1 dX2_combine_21 (by decide) ?_
    refine W.widen (k := 4) (n := 141) (by omega) (by omega) ?_
    exact rt_i S hr hlk hH dX2_combine_22 (⟨Or.inl rfl, hF, by rw [sComb_bad (Or.inl (ri_none hb))], by rw [sComb_bad (Or.inl (ri_none hb))]; exact ⟨_, _, _, _, P, T, Z, _, ⟨d0, d5, d6, d7, d8, ⟨_, d9⟩, ⟨_, dm⟩, hP, hT, hZ, hpl⟩, hi⟩⟩)
  · skip
    rcases hq1 with ⟨_, j, hj0, rfl⟩ | ⟨e, _⟩
    rotate_left
    · exact absurd e c4
    refine lv_iload_n S.1 S.2.1 dX2_combine_7 rfl (lv_at hl 2 rfl) ?_
    refine ck_ip (run_S (As := [.int (a)]) (rest := []) S hK hH (kX2_isRegister a) ceX2_isRegister mW101 rfl hl.1 rfl (Nat.le_of_ble_eq_true rfl) dX2_combine_8 ⟨rfl, rfl, by decide, by decide⟩ ⟨show 0 + 0 ≤ 4 by omega, show 0 + 0 ≤ 141 by omega⟩) hH (fun r8 H locs hp hH => ?_)
    have hq2 : Hid _ := hp
    clear hp
    refine lv_if_eq (tgt := 21) S.1 S.2.1 dX2_combine_11 (by decide) (fun c11 => ?_) (fun c11 => ?_)
    · skip
      rcases hq2 with ⟨e, _⟩ | ⟨_, hb⟩
      · rw [e] at c11; exact absurd c11 (by decide)
      refine lv_iconst (v := (-1)) S.1 S.2.1 dX2_combine_21 (by decide) ?_
      refine W.widen (k := 4) (n := 141) (by omega) (by omega) ?_
      exact rt_i S hr hlk hH dX2_combine_22 (⟨Or.inl rfl, hF, by rw [sComb_bad (Or.inr (Or.inl (ri_none hb)))], by rw [sComb_bad (Or.inr (Or.inl (ri_none hb)))]; exact ⟨_, _, _, _, P, T, Z, _, ⟨d0, d5, d6, d7, d8, ⟨_, d9⟩, ⟨_, dm⟩, hP, hT, hZ, hpl⟩, hi⟩⟩)
    · skip
      rcases hq2 with ⟨_, p1, hp0, rfl⟩ | ⟨e, _⟩
      rotate_left
      · exact absurd e c11
      refine lv_iload_n S.1 S.2.1 dX2_combine_14 rfl (lv_at hl 3 rfl) ?_
      refine ck_ip (run_S (As := [.int (b)]) (rest := []) S hK hH (kX2_isRegister b) ceX2_isRegister mW101 rfl hl.1 rfl (Nat.le_of_ble_eq_true rfl) dX2_combine_15 ⟨rfl, rfl, by decide, by decide⟩ ⟨show 0 + 0 ≤ 4 by omega, show 0 + 0 ≤ 141 by omega⟩) hH (fun r15 H locs hp hH => ?_)
      have hq3 : Hid _ := hp
      clear hp
      refine lv_if_ne (tgt := 23) S.1 S.2.1 dX2_combine_18 (by decide) (fun c18 => ?_) (fun c18 => ?_)
      · skip
        rcases hq3 with ⟨_, q1, hq0, rfl⟩ | ⟨e, _⟩
        rotate_left
        · exact absurd e c18
        obtain ⟨xa, xae, xai, xav⟩ := hrg p1 hp0
        have xain := isP_in xai
        have xal := isP_lt (by omega) xai
        obtain ⟨ya, yae, yai, yav⟩ := hrg q1 hq0
        have yain := isP_in yai
        have yal := isP_lt (by omega) yai
        refine lv_aload_n S.1 S.2.1 dX2_combine_23 rfl (lv_at hl 0 rfl) ?_
        refine gfX2_38 S hK hH d0 dX2_combine_24 ?_
        refine lv_aload_n S.1 S.2.1 dX2_combine_27 rfl (lv_at hl 0 rfl) ?_
        refine gfX2_14 S hK hH d0 dX2_combine_28 ?_
        refine lv_iload_n S.1 S.2.1 dX2_combine_31 rfl (lv_at hl 2 rfl) ?_
        refine ald_a S hK hH d5 (by omega) (by omega) (xae) dX2_combine_32 ?_
        refine lv_aload_n S.1 S.2.1 dX2_combine_33 rfl (lv_at hl 0 rfl) ?_
        refine gfX2_14 S hK hH d0 dX2_combine_34 ?_
        refine lv_iload_n S.1 S.2.1 dX2_combine_37 rfl (lv_at hl 3 rfl) ?_
        refine ald_a S hK hH d5 (by omega) (by omega) (yae) dX2_combine_38 ?_
        refine lv_iload S.1 S.2.1 dX2_combine_39 (lv_at hl 4 rfl) ?_
        refine ck_i (run_VN (As := [.ref (xa), .ref (ya), .int (iI sg)]) (rest := []) S hK hH (kX0_makeTotal (D + 9) T xa ya (pool xa).1 (pool ya).1 (pool xa).2 (pool ya).2 sg (.ref P) (.ref Z) (.ref (D + 22)) (.int bg) d9 hT (hpl xa xai).1 (hpl ya yai).1 (hpl xa xai).2 (hpl ya yai).2 hsg (by omega) (by omega)) ceX0_makeTotal mN151 d9 rfl rfl hl.1 rfl (Nat.le_of_ble_eq_true rfl) dX2_combine_41 ⟨rfl, rfl, by decide, by decide⟩ ⟨show 0 + 0 ≤ 4 by omega, show 0 + 0 ≤ 141 by omega⟩) hH (fun r41 w4 n4 H locs hp hH => ?_)
        obtain ⟨hn1, hfr, hq4⟩ := hp
        rw [hn1] at hH
        replace hq4 : Hid _ := hq4
        replace d0 := (hfr (D) (by omega)).trans d0
        replace d5 := (hfr (D + 5) (by omega)).trans d5
        replace d6 := (hfr (D + 6) (by omega)).trans d6
        replace d7 := (hfr (D + 7) (by omega)).trans d7
        replace d8 := (hfr (D + 8) (by omega)).trans d8
        replace d9 := (hfr (D + 9) (by omega)).trans d9
        replace dm := (hfr (D + 22) (by omega)).trans dm
        replace hP := hP.kept (fun b h1 h2 => hfr b (by omega))
        replace hZ := hZ.kept (fun b h1 h2 => hfr b (by omega))
        replace hpl := hpl.kept (fun b h1 h2 => hfr b (by omega))
        replace hF : ∀ b, D + 23 ≤ b ∧ b < D + 36 → w4 b = w b := fun b hb => (hfr b (by omega)).trans (hF b hb)
        refine lv_if_ne (tgt := 50) S.1 S.2.1 dX2_combine_44 (by decide) (fun c44 => ?_) (fun c44 => ?_)
        · skip
          rcases hq4 with ⟨_, M, e1, hTM⟩ | ⟨e, _⟩
          rotate_left
          · exact absurd e c44
          have hT := hTM.raw
          refine lv_aload_n S.1 S.2.1 dX2_combine_50 rfl (lv_at hl 0 rfl) ?_
          refine lv_iload_n S.1 S.2.1 dX2_combine_51 rfl (lv_at hl 1 rfl) ?_
          refine lv_aload_n S.1 S.2.1 dX2_combine_52 rfl (lv_at hl 0 rfl) ?_
          refine gfX2_38 S hK hH d0 dX2_combine_53 ?_
          refine gfX2_89 S hK hH d9 dX2_combine_56 ?_
          refine ck_i (run_V (As := [.int (nI j), .ref (T)]) (rest := []) S hK hH (kX2_store D j T M rg hy nums facs P T Z pool σ ⟨d0, d5, d6, d7, d8, ⟨_, d9⟩, ⟨_, dm⟩, hP, hT, hZ, hpl⟩ hi hTM (Or.inr rfl) (padd_ok (hpl xa xai).2 (hpl ya yai).2 e1) hj0) ceX2_store mW120 d0 rfl rfl hl.1 rfl (Nat.le_of_ble_eq_true rfl) dX2_combine_59 ⟨rfl, rfl, by decide, by decide⟩ ⟨show 0 + 4 ≤ 4 by omega, show 0 + 141 ≤ 141 by omega⟩) hH (fun r59 w5 n5 H locs hp hH => ?_)
          obtain ⟨hn1, hfr, hr1, hs1⟩ := hp
          rw [hn1] at hH
          replace hF : ∀ b, D + 23 ≤ b ∧ b < D + 36 → w5 b = w b := fun b hb => (hfr b (by omega)).trans (hF b hb)
          refine W.widen (k := 4) (n := 141) (by omega) (by omega) ?_
          rw [xav, yav] at e1
          exact rt_i S hr hlk hH dX2_combine_62 (⟨Or.inr rfl, hF, by rw [sComb_some hj0 hp0 hq0 e1]; exact hr1, by rw [sComb_some hj0 hp0 hq0 e1]; exact hs1⟩)
        · skip
          rcases hq4 with ⟨e, _⟩ | ⟨_, e1, hT⟩
          · rw [e] at c44; exact absurd c44 (by decide)
          refine lv_bipush (v := (-2)) S.1 S.2.1 dX2_combine_47 (by decide) ?_
          refine W.widen (k := 4) (n := 141) (by omega) (by omega) ?_
          rw [xav, yav] at e1
          exact rt_i S hr hlk hH dX2_combine_49 (⟨Or.inl rfl, hF, by rw [sComb_none hj0 hp0 hq0 e1], by rw [sComb_none hj0 hp0 hq0 e1]; exact ⟨_, _, _, _, P, T, Z, _, ⟨d0, d5, d6, d7, d8, ⟨_, d9⟩, ⟨_, dm⟩, hP, hT, hZ, hpl⟩, hi⟩⟩)
      · skip
        rcases hq3 with ⟨e, _⟩ | ⟨_, hb⟩
        · rw [e] at c18; exact absurd c18 (by decide)
        refine lv_iconst (v := (-1)) S.1 S.2.1 dX2_combine_21 (by decide) ?_
        refine W.widen (k := 4) (n := 141) (by omega) (by omega) ?_
        exact rt_i S hr hlk hH dX2_combine_22 (⟨Or.inl rfl, hF, by rw [sComb_bad (Or.inr (Or.inr (ri_none hb)))], by rw [sComb_bad (Or.inr (Or.inr (ri_none hb)))]; exact ⟨_, _, _, _, P, T, Z, _, ⟨d0, d5, d6, d7, d8, ⟨_, d9⟩, ⟨_, dm⟩, hP, hT, hZ, hpl⟩, hi⟩⟩)

set_option maxHeartbeats 4000000 in
set_option maxRecDepth 100000 in
theorem kX2_symbolCode {l : Launch} {G : Gx} {B : Nat} {w : Wm} {n : Nat} (t : Nat) (ht : t < 16) : Met l yX2_symbolCode (wsM yX2_symbolCode cX2_symbolCode 4 (some .long)) ({ frames := 0, cells := 0, slots := 0, locals := 0 } : Room) (Pcx G B w n [.int (nI t)]) (Ql G B (fun r w' n' => w' = w ∧ n' = n ∧ r = lN (scode t))) 0 0 (FA B) := by
  refine en (by decide) (Nat.le_of_ble_eq_true rfl) ?_
  intro p ev s mm ag bl mt co S hr hlk hnm hK H hH ls hl
  have hl : lv_has ls 4 [(0, .int (nI t))] := hl
  refine lv_lconst (v := lI 1) S.1 S.2.1 dX2_symbolCode_0 (by decide) ?_
  refine tpl (x' := lN (10 ^ (t + 1 - (t + 1)))) (by rw [Nat.sub_self]; rfl) ?_
  refine lv_lstore_n (lv' := [(1, .long (lN (10 ^ (t + 1 - (t + 1))))), (0, .int (nI t))]) S.1 S.2.1 dX2_symbolCode_1 rfl hl (by decide) rfl (fun ls hl => ?_)
  refine lv_iload_n S.1 S.2.1 dX2_symbolCode_2 rfl (lv_at hl 1 rfl) ?_
  refine lv_iconst (v := nI 1) S.1 S.2.1 dX2_symbolCode_3 (by decide) ?_
  refine lv_iadd S.1 S.2.1 dX2_symbolCode_4 ?_
  refine tpi (x' := nI (t + 1)) (nI_add _ _) ?_
  refine lv_istore_n (lv' := [(3, .int (nI (t + 1))), (1, .long (lN (10 ^ (t + 1 - (t + 1))))), (0, .int (nI t))]) S.1 S.2.1 dX2_symbolCode_5 rfl hl (by decide) rfl (fun ls hl => ?_)
  refine wlp (P := fun k_ ls H' locs' => ∃ (i : Nat), lv_has ls 4 [(0, .int (nI t)), (1, .long (lN (10 ^ (i - (t + 1))))), (3, .int (nI i))] ∧ (H = H' ∧ [] = locs') ∧ (t + 1 ≤ i) ∧ (i ≤ 16) ∧ k_ = 16 - i) ?_ (k0 := 16 - (t + 1)) ⟨t + 1, lv_sub hl [2, 1, 0] rfl, ⟨rfl, rfl⟩, by omega, by omega, rfl⟩
  intro k6 ls H' locs' hP ih6
  obtain ⟨i, hl, ⟨rfl, rfl⟩, h1, h2, hk6⟩ := hP
  refine lv_iload_n S.1 S.2.1 dX2_symbolCode_6 rfl (lv_at hl 2 rfl) ?_
  refine lv_bipush (v := nI 16) S.1 S.2.1 dX2_symbolCode_7 (by decide) ?_
  refine bn_ge (tgt := 24) S dX2_symbolCode_9 (by decide) (by omega) (fun c9 => ?_) (fun c9 => ?_)
  · skip
    refine lv_ldc2 S.1 S.2.1 S.2.2.2.1 (S.2.2.2.2 _ mW142) dX2_symbolCode_24 ?_
    refine tpl (x' := lI 10000000000000000) (by decide) ?_
    refine lv_lload_n S.1 S.2.1 dX2_symbolCode_27 rfl (lv_at hl 1 rfl) ?_
    refine lv_ladd S.1 S.2.1 dX2_symbolCode_28 ?_
    refine tpl (x' := lN (scode t)) (sym_add ht (by omega)) ?_
    exact rt_l S hr hlk hH dX2_symbolCode_29 (⟨rfl, rfl, rfl⟩)
  · skip
    refine lv_lload_n S.1 S.2.1 dX2_symbolCode_12 rfl (lv_at hl 1 rfl) ?_
    refine lv_ldc2 S.1 S.2.1 S.2.2.2.1 (S.2.2.2.2 _ mW141) dX2_symbolCode_13 ?_
    refine tpl (x' := lI 10) (by decide) ?_
    refine lv_lmul S.1 S.2.1 dX2_symbolCode_16 ?_
    refine tpl (x' := lN (10 ^ (i + 1 - (t + 1)))) (sym_mul h1) ?_
    refine lv_lstore_n (lv' := [(1, .long (lN (10 ^ (i + 1 - (t + 1))))), (0, .int (nI t)), (3, .int (nI i))]) S.1 S.2.1 dX2_symbolCode_17 rfl hl (by decide) rfl (fun ls hl => ?_)
    refine lv_iinc (v := nI (i + 1)) (lv' := [(3, .int (nI (i + 1))), (1, .long (lN (10 ^ (i + 1 - (t + 1))))), (0, .int (nI t))]) S.1 S.2.1 dX2_symbolCode_18 hl (k := 2) rfl (nI_inc _ 1) (by decide) rfl (fun ls hl => ?_)
    refine lv_goto (tgt := 6) S.1 S.2.1 dX2_symbolCode_21 (by decide) ?_
    exact ih6 _ _ _ _ (by omega) ⟨i + 1, lv_sub hl [2, 1, 0] rfl, ⟨rfl, rfl⟩, by omega, by omega, rfl⟩

set_option maxHeartbeats 4000000 in
set_option maxRecDepth 100000 in
theorem kX2_workTerm {l : Launch} {G : Gx} {B : Nat} {w : Wm} {n : Nat} (D xa k : Nat) (rg hy : Nat → Option Nat) (nums facs : Nat → Int32) (P T Z : Nat) (pool : Nat → Nat × PL) (σ : St) (hd : DeskC G w n D rg hy σ.2.2.1 nums facs σ.2.2.2.2.2 P T Z pool) (hi : DeskI D n rg hy nums facs P T Z pool σ) (xai : isP D n xa) (hk : k < (pool xa).2.length) : Met l yX2_workTerm (wsM yX2_workTerm cX2_workTerm 6 (some .boolean)) ({ frames := 5, cells := 0, slots := 0, locals := 121 } : Room) (Pcx G B w n [.ref (D), .ref (xa), .int (nI k)]) (Qi G B (fun r w' n' => n' = n ∧ (∀ b, ((D + 23 ≤ b ∧ b < D + 36) ∨ (T ≤ b ∧ b < T + 4)) → w' b = w b) ∧ ∃ P' Z', BR D P' T Z' ∧ DeskC G w' n D rg hy σ.2.2.1 nums facs σ.2.2.2.2.2 P' T Z' pool ∧ ((r = 1 ∧ ∃ M, pterm σ.1 (cd (pool xa).2 k, cf (pool xa).2 k) = some M ∧ okP M ∧ PolyAt G w' P' 60 M) ∨ (r = 0 ∧ pterm σ.1 (cd (pool xa).2 k, cf (pool xa).2 k) = none)))) 0 0 (FA B) := by
  refine en (by decide) (Nat.le_of_ble_eq_true rfl) ?_
  intro p ev s mm ag bl mt co S hr hlk hnm hK H hH ls hl
  have hl : lv_has ls 6 [(0, .ref (D)), (1, .ref (xa)), (2, .int (nI k))] := hl
  obtain ⟨d0, d5, d6, d7, d8, ⟨bg, d9⟩, ⟨mf, dm⟩, hP, hT, hZ, hpl⟩ := hd
  obtain ⟨hbr, hj, hhc, hpc, hrg, hhy, hnu, hfa⟩ := id hi
  unfold BR at hbr
  have xain := isP_in xai
  have xal := isP_lt (by omega) xai
  obtain ⟨L, hL⟩ : ∃ L, L = (pool xa).2 := ⟨_, rfl⟩
  rw [← hL] at hk ⊢
  have okx : okP L := by rw [hL]; exact (hpl xa xai).2
  have hbk := okx.ok k hk
  have hlen : L.length ≤ 60 := okx.2.1
  have hF : ∀ b, (D + 23 ≤ b ∧ b < D + 36) ∨ (T ≤ b ∧ b < T + 4) → w b = w b := fun _ _ => rfl
  refine lv_aload_n S.1 S.2.1 dX2_workTerm_0 rfl (lv_at hl 0 rfl) ?_
  refine gfX2_38 S hK hH d0 dX2_workTerm_1 ?_
  refine lv_lconst (v := lI 0) S.1 S.2.1 dX2_workTerm_4 (by decide) ?_
  refine tpl (x' := lN 0) (rfl) ?_
  refine lv_aload_n S.1 S.2.1 dX2_workTerm_5 rfl (lv_at hl 1 rfl) ?_
  refine lv_iload_n S.1 S.2.1 dX2_workTerm_6 rfl (lv_at hl 2 rfl) ?_
  obtain ⟨kx, px, hx1, _⟩ := (hpl xa xai).1
  rw [← hL] at hx1
  refine ck_ip (run_VN (As := [.int (nI k)]) (rest := [.long (lN 0), .ref (D + 9)]) S hK hH (kX1_coefficientAt xa (pool xa).1 L kx px (nI k) hx1) ceX1_coefficientAt mN213 hx1.ob rfl rfl hl.1 rfl (Nat.le_of_ble_eq_true rfl) dX2_workTerm_7 ⟨rfl, rfl, by decide, by decide⟩ ⟨show 0 + 0 ≤ 0 by omega, show 0 + 0 ≤ 0 by omega⟩) hH (fun r7 H locs hp hH => ?_)
  have hq1 : Hid _ := hp
  clear hp
  obtain rfl := cA_in hq1 hk (by omega)
  refine ck_v (run_VN (As := [.long (lN 0), .int (iI (cf L k))]) (rest := []) S hK hH (kX0_beginProduct (D + 9) P 0 (cf L k) (.ref T) (.ref Z) (.ref (D + 22)) (.int bg) d9 hP (by omega) (by omega)) ceX0_beginProduct mN106 d9 rfl rfl hl.1 rfl (Nat.le_of_ble_eq_true rfl) dX2_workTerm_10 ⟨rfl, rfl, by decide, by decide⟩ ⟨show 0 + 0 ≤ 0 by omega, show 0 + 0 ≤ 0 by omega⟩) hH (fun w2 n2 H locs hp hH => ?_)
  obtain ⟨hn1, hfr, hP⟩ := hp
  rw [hn1] at hH
  replace d0 := (hfr (D) (by omega)).trans d0
  replace d5 := (hfr (D + 5) (by omega)).trans d5
  replace d6 := (hfr (D + 6) (by omega)).trans d6
  replace d7 := (hfr (D + 7) (by omega)).trans d7
  replace d8 := (hfr (D + 8) (by omega)).trans d8
  replace d9 := (hfr (D + 9) (by omega)).trans d9
  replace dm := (hfr (D + 22) (by omega)).trans dm
  replace hT := hT.kept (fun b h1 h2 => hfr b (by omega))
  replace hZ := hZ.kept (fun b h1 h2 => hfr b (by omega))
  replace hpl := hpl.kept (fun b h1 h2 => hfr b (by omega))
  replace hF : ∀ b, (D + 23 ≤ b ∧ b < D + 36) ∨ (T ≤ b ∧ b < T + 4) → w2 b = w b := fun b hb => (hfr b (by omega)).trans (hF b hb)
  refine lv_iconst (v := nI 0) S.1 S.2.1 dX2_workTerm_13 (by decide) ?_
  refine lv_istore_n (lv' := [(3, .int (nI 0)), (0, .ref (D)), (1, .ref (xa)), (2, .int (nI k))]) S.1 S.2.1 dX2_workTerm_14 rfl hl (by decide) rfl (fun ls hl => ?_)
  refine wlp (P := fun k_ ls H' locs' => ∃ (s1 : Nat) (A : PL) (P Z : Nat) (bg : Int32) (mf : Nat → Int32) (v : Wm), lv_has ls 6 [(0, .ref (D)), (1, .ref (xa)), (2, .int (nI k)), (3, .int (nI s1))] ∧ HS G B v (n) s H' locs' ∧ v (D) = some (eO 2 [.ref (D + 5), .ref (D + 6), .int (nI (σ.2.2.1)), .ref (D + 7), .ref (D + 8), .int (nI (σ.2.2.2.2.2)), .ref (D + 9)]) ∧ v (D + 5) = some (eQ G (16) (rg)) ∧ v (D + 6) = some (eQ G (40) (hy)) ∧ v (D + 7) = some (eI G (20) (nums)) ∧ v (D + 8) = some (eI G (80) (facs)) ∧ v (D + 9) = some (eO 0 [.ref (P), .ref (T), .ref (Z), .ref (D + 22), .int (bg)]) ∧ v (D + 22) = some (eI G (60) (mf)) ∧ (PolyAt G v P 60 A) ∧ (PolyR G v T) ∧ (PolyR G v Z) ∧ (PoolOK G v n D pool) ∧ (∀ b, (D + 23 ≤ b ∧ b < D + 36) ∨ (T ≤ b ∧ b < T + 4) → v b = w b) ∧ (BR D P T Z) ∧ (s1 ≤ 16) ∧ (okP A) ∧ (pterm σ.1 (cd L k, cf L k) = wt σ.1 (cd L k) (16 - s1) A) ∧ k_ = 16 - s1) ?_ (k0 := 16 - (0)) ⟨0, _, P, Z, _, _, w2, lv_sub hl [1, 2, 3, 0] rfl, hH, d0, d5, d6, d7, d8, d9, dm, hP, hT, hZ, hpl, hF, hbr, by omega, one_ok vC_0 (by omega), rfl, rfl⟩
  intro k15 ls H locs hP ih15
  obtain ⟨s1, A, P, Z, bg, mf, v, hl, hH, d0, d5, d6, d7, d8, d9, dm, hP, hT, hZ, hpl, hF, hbr, hs1, oka, hw, hk15⟩ := hP
  unfold BR at hbr
  refine lv_iload_n S.1 S.2.1 dX2_workTerm_15 rfl (lv_at hl 3 rfl) ?_
  refine lv_bipush (v := nI 16) S.1 S.2.1 dX2_workTerm_16 (by decide) ?_
  refine bn_ge (tgt := 69) S dX2_workTerm_18 (by decide) (by omega) (fun c18 => ?_) (fun c18 => ?_)
  · skip
    refine lv_iconst (v := nI 1) S.1 S.2.1 dX2_workTerm_69 (by decide) ?_
    exact rt_z S hr hlk hH dX2_workTerm_70 (by decide) (⟨rfl, hF, P, Z, hbr, ⟨d0, d5, d6, d7, d8, ⟨_, d9⟩, ⟨_, dm⟩, hP.raw, hT, hZ, hpl⟩, Or.inl ⟨rfl, A, by rw [hw, show 16 - s1 = 0 by omega]; rfl, oka, hP⟩⟩)
  · skip
    refine lv_aload_n S.1 S.2.1 dX2_workTerm_21 rfl (lv_at hl 1 rfl) ?_
    refine lv_iload_n S.1 S.2.1 dX2_workTerm_22 rfl (lv_at hl 2 rfl) ?_
    refine lv_iload_n S.1 S.2.1 dX2_workTerm_23 rfl (lv_at hl 3 rfl) ?_
    obtain ⟨kx, px, hx1, _⟩ := (hpl xa xai).1
    rw [← hL] at hx1
    have hdg := dig_lt (cd L k) s1
    refine ck_ip (run_VN (As := [.int (nI k), .int (nI s1)]) (rest := []) S hK hH (kX1_powerAt xa (pool xa).1 L kx px (nI k) (nI s1) hx1 (fun j hj => (okx.ok j hj).1)) ceX1_powerAt mN221 hx1.ob rfl rfl hl.1 rfl (Nat.le_of_ble_eq_true rfl) dX2_workTerm_24 ⟨rfl, rfl, by decide, by decide⟩ ⟨show 0 + 0 ≤ 0 by omega, show 0 + 0 ≤ 0 by omega⟩) hH (fun r24 H locs hp hH => ?_)
    have hq1 : Hid _ := hp
    clear hp
    obtain rfl := pA_in hq1 hk c18 (by omega)
    refine lv_istore (lv' := [(4, .int (nI (dig (cd L k) s1))), (0, .ref (D)), (1, .ref (xa)), (2, .int (nI k)), (3, .int (nI s1))]) S.1 S.2.1 dX2_workTerm_27 hl (by decide) rfl (fun ls hl => ?_)
    refine lv_iconst (v := nI 0) S.1 S.2.1 dX2_workTerm_29 (by decide) ?_
    refine lv_istore (lv' := [(5, .int (nI 0)), (4, .int (nI (dig (cd L k) s1))), (0, .ref (D)), (1, .ref (xa)), (2, .int (nI k)), (3, .int (nI s1))]) S.1 S.2.1 dX2_workTerm_30 hl (by decide) rfl (fun ls hl => ?_)
    refine wlp (P := fun k_ ls H' locs' => ∃ (i : Nat) (A : PL) (P Z : Nat) (bg : Int32) (mf : Nat → Int32) (v : Wm), lv_has ls 6 [(0, .ref (D)), (1, .ref (xa)), (2, .int (nI k)), (3, .int (nI s1)), (4, .int (nI (dig (cd L k) s1))), (5, .int (nI i))] ∧ HS G B v (n) s H' locs' ∧ v (D) = some (eO 2 [.ref (D + 5), .ref (D + 6), .int (nI (σ.2.2.1)), .ref (D + 7), .ref (D + 8), .int (nI (σ.2.2.2.2.2)), .ref (D + 9)]) ∧ v (D + 5) = some (eQ G (16) (rg)) ∧ v (D + 6) = some (eQ G (40) (hy)) ∧ v (D + 7) = some (eI G (20) (nums)) ∧ v (D + 8) = some (eI G (80) (facs)) ∧ v (D + 9) = some (eO 0 [.ref (P), .ref (T), .ref (Z), .ref (D + 22), .int (bg)]) ∧ v (D + 22) = some (eI G (60) (mf)) ∧ (PolyAt G v P 60 A) ∧ (PolyR G v T) ∧ (PolyR G v Z) ∧ (PoolOK G v n D pool) ∧ (∀ b, (D + 23 ≤ b ∧ b < D + 36) ∨ (T ≤ b ∧ b < T + 4) → v b = w b) ∧ (BR D P T Z) ∧ (i ≤ dig (cd L k) s1) ∧ (okP A) ∧ (pterm σ.1 (cd L k, cf L k) = (pwr (σ.1 s1) (dig (cd L k) s1 - i) A).bind (wt σ.1 (cd L k) (15 - s1))) ∧ k_ = dig (cd L k) s1 - i) ?_ (k0 := dig (cd L k) s1 - (0)) ⟨0, A, P, Z, _, _, v, lv_sub hl [2, 3, 4, 5, 1, 0] rfl, hH, d0, d5, d6, d7, d8, d9, dm, hP, hT, hZ, hpl, hF, hbr, by omega, oka, hw.trans (wt_beg c18), rfl⟩
    intro k32 ls H locs hP ih32
    obtain ⟨i, A, P, Z, bg, mf, v, hl, hH, d0, d5, d6, d7, d8, d9, dm, hP, hT, hZ, hpl, hF, hbr, hi1, oka, hw, hk32⟩ := hP
    unfold BR at hbr
    refine lv_iload S.1 S.2.1 dX2_workTerm_32 (lv_at hl 5 rfl) ?_
    refine lv_iload S.1 S.2.1 dX2_workTerm_34 (lv_at hl 4 rfl) ?_
    refine bn_ge (tgt := 63) S dX2_workTerm_36 (by decide) (by omega) (fun c36 => ?_) (fun c36 => ?_)
    · skip
      refine lv_iinc (v := nI (s1 + 1)) (lv' := [(3, .int (nI (s1 + 1))), (0, .ref (D)), (1, .ref (xa)), (2, .int (nI k)), (4, .int (nI (dig (cd L k) s1))), (5, .int (nI i))]) S.1 S.2.1 dX2_workTerm_63 hl (k := 3) rfl (nI_inc _ 1) (by decide) rfl (fun ls hl => ?_)
      refine lv_goto (tgt := 15) S.1 S.2.1 dX2_workTerm_66 (by decide) ?_
      exact ih15 _ _ _ _ (by omega) ⟨s1 + 1, A, P, Z, _, _, v, lv_sub hl [1, 2, 3, 0] rfl, hH, d0, d5, d6, d7, d8, d9, dm, hP, hT, hZ, hpl, hF, hbr, by omega, oka, hw.trans (wt_end c18 c36), rfl⟩
    · skip
      obtain ⟨ra, rae, rai, rav⟩ := hrg s1 c18
      have rain := isP_in rai
      have ral := isP_lt (by omega) rai
      refine lv_aload_n S.1 S.2.1 dX2_workTerm_39 rfl (lv_at hl 0 rfl) ?_
      refine gfX2_38 S hK hH d0 dX2_workTerm_40 ?_
      refine lv_aload_n S.1 S.2.1 dX2_workTerm_43 rfl (lv_at hl 0 rfl) ?_
      refine gfX2_14 S hK hH d0 dX2_workTerm_44 ?_
      refine lv_iload_n S.1 S.2.1 dX2_workTerm_47 rfl (lv_at hl 3 rfl) ?_
      refine ald_a S hK hH d5 (by omega) (by omega) (rae) dX2_workTerm_48 ?_
      refine ck_i (run_VN (As := [.ref (ra)]) (rest := []) S hK hH (kX0_multiplyBy (D + 9) (D + 22) P T Z ra (pool ra).1 A (pool ra).2 bg mf d9 dm hP hZ (hpl ra rai).1 oka (hpl ra rai).2 (by omega) (by omega) (by omega) (by omega) (by omega) (by omega) (by omega) (by omega) (by omega) (by omega)) ceX0_multiplyBy mN226 d9 rfl rfl hl.1 rfl (Nat.le_of_ble_eq_true rfl) dX2_workTerm_49 ⟨rfl, rfl, by decide, by decide⟩ ⟨show 0 + 0 ≤ 0 by omega, show 0 + 0 ≤ 0 by omega⟩) hH (fun r49 w4 n4 H locs hp hH => ?_)
      obtain ⟨hn1, hfr, ⟨⟨bg, d9⟩, ⟨mf, dm⟩, hxr, hPr, hq3⟩⟩ := hp
      rw [hn1] at hH
      replace hq3 : Hid _ := hq3
      replace d0 := (hfr (D) (by omega)).trans d0
      replace d5 := (hfr (D + 5) (by omega)).trans d5
      replace d6 := (hfr (D + 6) (by omega)).trans d6
      replace d7 := (hfr (D + 7) (by omega)).trans d7
      replace d8 := (hfr (D + 8) (by omega)).trans d8
      replace hT := hT.kept (fun b h1 h2 => hfr b (by omega))
      replace hF : ∀ b, (D + 23 ≤ b ∧ b < D + 36) ∨ (T ≤ b ∧ b < T + 4) → w4 b = w b := fun b hb => (hfr b (by omega)).trans (hF b hb)
      have hpl := hpl.after rai hxr (fun b h1 h2 h3 h4 => hfr b (by omega))
      refine lv_if_ne (tgt := 57) S.1 S.2.1 dX2_workTerm_52 (by decide) (fun c52 => ?_) (fun c52 => ?_)
      · skip
        rcases hq3 with ⟨_, M, e1, hPM⟩ | ⟨e, _⟩
        rotate_left
        · exact absurd e c52
        have okm := pmul_ok oka (hpl ra rai).2 e1
        rw [rav] at e1
        refine lv_iinc (v := nI (i + 1)) (lv' := [(5, .int (nI (i + 1))), (0, .ref (D)), (1, .ref (xa)), (2, .int (nI k)), (3, .int (nI s1)), (4, .int (nI (dig (cd L k) s1)))]) S.1 S.2.1 dX2_workTerm_57 hl (k := 5) rfl (nI_inc _ 1) (by decide) rfl (fun ls hl => ?_)
        refine lv_goto (tgt := 32) S.1 S.2.1 dX2_workTerm_60 (by decide) ?_
        exact ih32 _ _ _ _ (by omega) ⟨i + 1, M, Z, P, _, _, w4, lv_sub hl [1, 2, 3, 4, 5, 0] rfl, hH, d0, d5, d6, d7, d8, d9, dm, hPM, hT, hPr, hpl, hF, br_sw hbr, by omega, okm, hw.trans (pwr_some c36 e1), rfl⟩
      · skip
        rcases hq3 with ⟨e, _⟩ | ⟨_, e1, hPM⟩
        · rw [e] at c52; exact absurd c52 (by decide)
        rw [rav] at e1
        refine lv_iconst (v := nI 0) S.1 S.2.1 dX2_workTerm_55 (by decide) ?_
        exact rt_z S hr hlk hH dX2_workTerm_56 (by decide) (⟨rfl, hF, Z, P, br_sw hbr, ⟨d0, d5, d6, d7, d8, ⟨_, d9⟩, ⟨_, dm⟩, hPM, hT, hPr, hpl⟩, Or.inr ⟨rfl, hw.trans (pwr_none c36 e1)⟩⟩)

