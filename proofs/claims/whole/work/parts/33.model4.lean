def pF (X Y : PL) (i j : Nat) : Nat → Int := fun x => pc (X.take i) Y x + pr1 (cd X i, cf X i) (Y.take j) x
def nofar (X Y : PL) (i j : Nat) : Prop := ∀ i' j', (i' < i ∧ j' < Y.length) ∨ (i' = i ∧ j' < j) → ∀ q, q < 16 → dp q (cd X i') + dp q (cd Y j') ≤ 9
def PI (big : Int32) (fc fh fl : Nat → Int64) (X Y : PL) (m i j : Nat) : Prop := (big = nI 0 ∧ nofar X Y i j ∧ ar fc fh fl m (pF X Y i j)) ∨ (big = nI 1 ∧ ∃ t ∈ X, ∃ s ∈ Y, ∃ q, q < 16 ∧ 9 < dp q t.1 + dp q s.1)
section PP
variable {big : Int32} {fc fh fl : Nat → Int64} {X Y : PL} {m i j : Nat}
theorem PI_0 : PI (nI 0) fc fh fl X Y 0 0 0 := Or.inl ⟨rfl, fun i' j' h => by omega, ar_0.cg (fun x => by simp [pF, pc, pr1])⟩
theorem PI_f1 (h : PI big fc fh fl X Y m i j) (hb : big ≠ 0) : ∃ t ∈ X, ∃ s ∈ Y, ∃ q, q < 16 ∧ 9 < dp q t.1 + dp q s.1 := by
  rcases h with ⟨e, _⟩ | ⟨_, h⟩
  · exact absurd e hb
  · exact h
theorem r0_1 {z : Nat} {r : Int32} (h : (r = 1 ∧ ∃ u, u < 8 ∧ 9 < bt8 u z) ∨ (r = 0 ∧ ∀ u, u < 8 → bt8 u z ≤ 9)) (hr : r ≠ 0) : ∃ u, u < 8 ∧ 9 < bt8 u z := by
  rcases h with ⟨_, h⟩ | ⟨e, _⟩
  · exact h
  · exact absurd e hr
theorem r0_0 {z : Nat} {r : Int32} (h : (r = 1 ∧ ∃ u, u < 8 ∧ 9 < bt8 u z) ∨ (r = 0 ∧ ∀ u, u < 8 → bt8 u z ≤ 9)) (hr : r = 0) : ∀ u, u < 8 → bt8 u z ≤ 9 := by
  rcases h with ⟨e, _⟩ | ⟨_, h⟩
  · rw [e] at hr; exact absurd hr (by decide)
  · exact h
theorem PI_f2 (hi : i < X.length) (hj : j < Y.length) (h : ∃ u, u < 8 ∧ 9 < bt8 u (hiC (cd X i) + hiC (cd Y j))) : ∃ t ∈ X, ∃ s ∈ Y, ∃ q, q < 16 ∧ 9 < dp q t.1 + dp q s.1 := by
  obtain ⟨q, _, h2, h3⟩ := (far_hi _ _).mp h
  exact ⟨_, cd_mem hi, _, cd_mem hj, q, h2, h3⟩
theorem PI_f3 (hi : i < X.length) (hj : j < Y.length) (h : ∃ u, u < 8 ∧ 9 < bt8 u (loC (cd X i) + loC (cd Y j))) : ∃ t ∈ X, ∃ s ∈ Y, ∃ q, q < 16 ∧ 9 < dp q t.1 + dp q s.1 := by
  obtain ⟨q, h2, h3⟩ := (far_lo _ _).mp h
  exact ⟨_, cd_mem hi, _, cd_mem hj, q, by omega, h3⟩
theorem pr1_tk {t : Nat × Int} (h : j < Y.length) (x : Nat) : pr1 t (Y.take (j + 1)) x = pr1 t (Y.take j) x + (if t.1 + cd Y j = x then t.2 * cf Y j else 0) := by
  rw [take_cd h]
  generalize Y.take j = T
  induction T with
  | nil => simp [pr1]
  | cons s T ih => rw [List.cons_append, pr1, ih, pr1]; omega
theorem pc_tk (h : i < X.length) (x : Nat) : pc (X.take (i + 1)) Y x = pc (X.take i) Y x + pr1 (cd X i, cf X i) Y x := by
  rw [take_cd h]
  generalize X.take i = T
  induction T with
  | nil => simp [pc]
  | cons s T ih => rw [List.cons_append, pc, ih, pc]; omega
theorem PI_row (h : PI big fc fh fl X Y m i Y.length) (hi : i < X.length) : PI big fc fh fl X Y m (i + 1) 0 := by
  rcases h with ⟨e, h1, h2⟩ | h
  · refine Or.inl ⟨e, fun i' j' h3 => h1 i' j' ?_, h2.cg (fun x => ?_)⟩
    · omega
    · unfold pF
      rw [pc_tk hi, List.take_of_length_le (Nat.le_refl _)]
      simp [pr1]
  · exact Or.inr h
theorem pr1_b {t : Nat × Int} (ht : -99999999 ≤ t.2 ∧ t.2 ≤ 99999999) (hY : okP Y) (j x : Nat) : -10000000000000000 ≤ pr1 t (Y.take j) x ∧ pr1 t (Y.take j) x ≤ 10000000000000000 := by
  have hs : Srt (Y.take j) := List.Pairwise.sublist (List.take_sublist j Y) hY.1
  by_cases q : ∃ s ∈ Y.take j, t.1 + s.1 = x
  · obtain ⟨s, hs1, e⟩ := q
    rw [pr1_one hs hs1 e]
    exact pr_b ht (hY.2.2 s (List.mem_of_mem_take hs1)).2.2
  · rw [pr1_out (fun s hs1 e => q ⟨s, hs1, e⟩)]; decide
theorem pc_b (hX : okP X) (hY : okP Y) (x : Nat) : ∀ i, i ≤ X.length → -(10000000000000000 * (i : Int)) ≤ pc (X.take i) Y x ∧ pc (X.take i) Y x ≤ 10000000000000000 * (i : Int)
  | 0, _ => by simp [pc]
  | i + 1, h => by
    have h1 := pc_b hX hY x i (by omega)
    have h2 := pr1_b (t := (cd X i, cf X i)) (hX.2.2 _ (cd_mem (show i < X.length by omega))).2.2 hY Y.length x
    rw [List.take_of_length_le (Nat.le_refl _)] at h2
    rw [pc_tk (by omega)]
    omega
theorem PI_ok (h : PI big fc fh fl X Y m i j) (hb : big = 0) (hX : okP X) (hY : okP Y) (hi : i < X.length) (hj : j < Y.length) (n1 : ∀ u, u < 8 → bt8 u (hiC (cd X i) + hiC (cd Y j)) ≤ 9) (n2 : ∀ u, u < 8 → bt8 u (loC (cd X i) + loC (cd Y j)) ≤ 9) {m9 : Nat} {fc' fh' fl' : Nat → Int64} (ha : ∀ (F : Nat → Int) (c : Nat) (k0 : Int), ar fc fh fl m F → vC c → lN (hiC (cd X i) + hiC (cd Y j)) = lN (hiC c) → lN (loC (cd X i) + loC (cd Y j)) = lN (loC c) → lI (cf X i * cf Y j) = lI k0 → (-4611686018427387904 ≤ F c + k0 ∧ F c + k0 < 4611686018427387904) → ar fc' fh' fl' m9 (fup F c k0)) : PI (nI 0) fc' fh' fl' X Y m9 i (j + 1) := by
  rcases h with ⟨_, h1, h2⟩ | ⟨e, _⟩
  · have hd : ∀ q, q < 16 → dp q (cd X i) + dp q (cd Y j) ≤ 9 := by
      intro q hq
      rcases Nat.lt_or_ge 9 (dp q (cd X i) + dp q (cd Y j)) with r | r
      · rcases Nat.lt_or_ge q 8 with u | u
        · obtain ⟨v, hv, hv2⟩ := (far_lo _ _).mpr ⟨q, u, r⟩
          have := n2 v hv
          omega
        · obtain ⟨v, hv, hv2⟩ := (far_hi _ _).mpr ⟨q, u, hq, r⟩
          have := n1 v hv
          omega
      · exact r
    refine Or.inl ⟨rfl, fun i' j' h3 => ?_, (ha _ (cd X i + cd Y j) (cf X i * cf Y j) h2 (add_vC (hX.2.2 _ (cd_mem hi)).1 (hY.2.2 _ (cd_mem hj)).1 hd) (by rw [hi_add hd]) (by rw [lo_add hd]) rfl ?_).cg (fun x => ?_)⟩
    · by_cases e2 : i' = i ∧ j' = j
      · rw [e2.1, e2.2]; exact hd
      · exact h1 i' j' (by omega)
    · have b1 := pc_b hX hY (cd X i + cd Y j) i (by omega)
      have b2 := pr1_b (t := (cd X i, cf X i)) (hX.2.2 _ (cd_mem hi)).2.2 hY j (cd X i + cd Y j)
      have b3 := pr_b (hX.2.2 _ (cd_mem hi)).2.2 (hY.2.2 _ (cd_mem hj)).2.2
      have b4 : -10000000000000000 ≤ cf X i * cf Y j ∧ cf X i * cf Y j ≤ 10000000000000000 := b3
      have b5 := hX.2.1
      unfold pF
      omega
    · show pc (X.take i) Y x + pr1 (cd X i, cf X i) (Y.take j) x + (if cd X i + cd Y j = x then cf X i * cf Y j else 0) = pc (X.take i) Y x + pr1 (cd X i, cf X i) (Y.take (j + 1)) x
      rw [pr1_tk hj]
      show _ + (if cd X i + cd Y j = x then cf X i * cf Y j else 0) = _ + (_ + (if cd X i + cd Y j = x then cf X i * cf Y j else 0))
      omega
  · rw [e] at hb; exact absurd hb (by decide)
theorem prod_A (h : PI big fc fh fl X Y m X.length 0) (hb : big = 0) (hX : okP X) (hY : okP Y) : CInv fc fh fl (pF X Y X.length 0) m 0 0 ∧ Srt (if X.length = 0 then [] else fp X Y) ∧ (∀ t ∈ (if X.length = 0 then [] else fp X Y), t.2 ≠ 0 ∧ vC t.1) ∧ ∀ c, co (if X.length = 0 then [] else fp X Y) c = pF X Y X.length 0 c := by
  rcases h with ⟨_, h1, h2⟩ | ⟨e, _⟩
  · refine ⟨h2.C, ?_⟩
    have eF : ∀ c, pF X Y X.length 0 c = pc X Y c := fun c => by
      unfold pF
      rw [List.take_of_length_le (Nat.le_refl _)]; simp [pr1]
    by_cases q : X.length = 0
    · rw [if_pos q]
      refine ⟨srt_nil, fun t ht => (by cases ht), fun c => ?_⟩
      rw [eF, List.eq_nil_of_length_eq_zero q]; rfl
    · rw [if_neg q]
      obtain ⟨f1, f2, f3, f4⟩ := fp_ok hX.1 hY.1 (Nat.pos_of_ne_zero q)
      refine ⟨f1, fun t ht => ⟨f2 t ht, ?_⟩, fun c => by rw [f3, eF]⟩
      obtain ⟨i, j, hi, hj, e⟩ := f4 t ht
      rw [e]
      exact add_vC (hX.2.2 _ (cd_mem hi)).1 (hY.2.2 _ (cd_mem hj)).1 (h1 i j (Or.inl ⟨hi, hj⟩))
  · rw [e] at hb; exact absurd hb (by decide)
theorem pmul_L (h : nofar X Y X.length 0) : pmul X Y = cut 60 (if X.length = 0 then [] else fp X Y) := by
  by_cases q : X.length = 0
  · rw [if_pos q, pmul_nil (Or.inl q)]; rfl
  · rw [if_neg q]
    by_cases r : Y.length = 0
    · rw [pmul_nil (Or.inr r)]
      have : fp X Y = [] := by unfold fp; rw [r, Nat.mul_zero]; rfl
      rw [this]; rfl
    · refine pmul_cut (by omega) (by omega) (fun u hu => ?_)
      obtain ⟨t, ht, et⟩ := top_is (L := X) u (fun e => q (by rw [e]; rfl))
      obtain ⟨s, hs, es⟩ := top_is (L := Y) u (fun e => r (by rw [e]; rfl))
      obtain ⟨i, hi, rfl⟩ := mem_cd ht
      obtain ⟨j, hj, rfl⟩ := mem_cd hs
      rw [← et, ← es, dig_dp, dig_dp]
      exact h i j (Or.inl ⟨hi, hj⟩) (15 - u) (by omega)
theorem pmul_N (h : ∃ t ∈ X, ∃ s ∈ Y, ∃ q, q < 16 ∧ 9 < dp q t.1 + dp q s.1) : pmul X Y = none := by
  obtain ⟨t, ht, s, hs, q, hq, h9⟩ := h
  have h0 : 0 < X.length := List.length_pos_of_mem ht
  have h1 : 0 < Y.length := List.length_pos_of_mem hs
  refine pmul_far h0 h1 ⟨15 - q, by omega, ?_⟩
  have e1 := top_ge (15 - q) ht
  have e2 := top_ge (15 - q) hs
  rw [dig_dp, show 15 - (15 - q) = q by omega] at e1 e2
  omega
theorem prod_Q {ma : Nat → Int32} {gc gh gl : Nat → Int64} {Sl : Nat → PL} {z : Nat} {r : Int32} (hP : PI big fc fh fl X Y m X.length 0) (hX : okP X) (hY : okP Y) (h : (r = 1 ∧ big = 0 ∧ cut 60 (if X.length = 0 then [] else fp X Y) = some (if X.length = 0 then [] else fp X Y) ∧ SlotsOK ma gc gh gl (va_up Sl z (if X.length = 0 then [] else fp X Y))) ∨ (r = 0 ∧ (big = 0 → cut 60 (if X.length = 0 then [] else fp X Y) = none) ∧ SlotsOK ma gc gh gl Sl)) : (r = 1 ∧ ∃ K, pmul X Y = some K ∧ SlotsOK ma gc gh gl (va_up Sl z K)) ∨ (r = 0 ∧ pmul X Y = none ∧ SlotsOK ma gc gh gl Sl) := by
  rcases hP with ⟨e, h1, _⟩ | ⟨e, h1⟩
  · rw [pmul_L h1]
    exact to_Q e h
  · rcases h with ⟨_, e2, _⟩ | ⟨e2, _, e3⟩
    · rw [e] at e2; exact absurd e2 (by decide)
    · exact Or.inr ⟨e2, pmul_N h1, e3⟩
end PP

set_option maxHeartbeats 4000000 in
set_option maxRecDepth 100000 in
theorem kX3_product {l : Launch} {G : Gx} {B : Nat} {w : Wm} {n : Nat} (M z a b : Nat) (Sl : Nat → PL) (hc pc cnt big : Int32) (ma : Nat → Int32) (gc gh gl fc fh fl : Nat → Int64) (m0 : w M = some (MOb M hc pc cnt big)) (m1 : w (M + 1) = some (eI G 62 ma)) (m2 : w (M + 2) = some (eJ G 3720 gc)) (m3 : w (M + 3) = some (eJ G 3720 gh)) (m4 : w (M + 4) = some (eJ G 3720 gl)) (m10 : w (M + 10) = some (eJ G 3700 fc)) (m11 : w (M + 11) = some (eJ G 3700 fh)) (m12 : w (M + 12) = some (eJ G 3700 fl)) (hz : z < 62) (ha : a < 62) (hb : b < 62) (hsl : SlotsOK ma gc gh gl Sl) : Met l yX3_product (wsM yX3_product cX3_product 10 (some .boolean)) ({ frames := 3, cells := 0, slots := 0, locals := 74 } : Room) (Pcx G B w n [.ref (M), .int (nI z), .int (nI a), .int (nI b)]) (Qi G B (fun r w' n' => n' = n ∧ (∀ b, (b < M ∨ M + 13 ≤ b ∨ (M + 5 ≤ b ∧ b < M + 10)) → w' b = w b) ∧ ∃ cnt' big' fc' fh' fl' ma' gc' gh' gl', w' M = some (MOb M hc pc cnt' big') ∧ w' (M + 10) = some (eJ G 3700 fc') ∧ w' (M + 11) = some (eJ G 3700 fh') ∧ w' (M + 12) = some (eJ G 3700 fl') ∧ w' (M + 1) = some (eI G 62 ma') ∧ w' (M + 2) = some (eJ G 3720 gc') ∧ w' (M + 3) = some (eJ G 3720 gh') ∧ w' (M + 4) = some (eJ G 3720 gl') ∧ ((r = 1 ∧ ∃ K, pmul (Sl a) (Sl b) = some K ∧ SlotsOK ma' gc' gh' gl' (va_up Sl z K)) ∨ (r = 0 ∧ pmul (Sl a) (Sl b) = none ∧ SlotsOK ma' gc' gh' gl' Sl)))) 0 0 (FA B) := by
  refine en (by decide) (Nat.le_of_ble_eq_true rfl) ?_
  intro p ev s mm ag bl mt cde S hr hlk hnm hK H hH ls hl
  have hl : lv_has ls 10 [(0, .ref (M)), (1, .int (nI z)), (2, .int (nI a)), (3, .int (nI b))] := hl
  obtain ⟨okx, hmx, hsx⟩ := hsl a ha
  obtain ⟨oky, hmy, hsy⟩ := hsl b hb
  obtain ⟨X, hX⟩ : ∃ X, X = Sl a := ⟨_, rfl⟩
  obtain ⟨Y, hY⟩ : ∃ Y, Y = Sl b := ⟨_, rfl⟩
  rw [← hX] at okx hmx hsx ⊢
  rw [← hY] at oky hmy hsy ⊢
  have hlx := okx.2.1
  have hly := oky.2.1
  have hF : ∀ b, b < M ∨ M + 13 ≤ b ∨ (M + 5 ≤ b ∧ b < M + 10) → w b = w b := fun _ _ => rfl
  refine lv_aload_n S.1 S.2.1 dX3_product_0 rfl (lv_at hl 0 rfl) ?_
  refine ck_v (run_V (As := []) (rest := []) S hK hH (kX3_begin M hc pc cnt big m0) ceX3_begin mW357 m0 rfl rfl hl.1 rfl (Nat.le_of_ble_eq_true rfl) dX3_product_1 ⟨rfl, rfl, by decide, by decide⟩ ⟨show 0 + 0 ≤ 0 by omega, show 0 + 0 ≤ 0 by omega⟩) hH (fun w1 n1 H locs hp hH => ?_)
  obtain ⟨hn1, hfr, m0⟩ := hp
  rw [hn1] at hH
  replace m1 := (hfr (M + 1) (by omega)).trans m1
  replace m2 := (hfr (M + 2) (by omega)).trans m2
  replace m3 := (hfr (M + 3) (by omega)).trans m3
  replace m4 := (hfr (M + 4) (by omega)).trans m4
  replace m10 := (hfr (M + 10) (by omega)).trans m10
  replace m11 := (hfr (M + 11) (by omega)).trans m11
  replace m12 := (hfr (M + 12) (by omega)).trans m12
  replace hF : ∀ b, b < M ∨ M + 13 ≤ b ∨ (M + 5 ≤ b ∧ b < M + 10) → w1 b = w b := fun b hb => (hfr b (by omega)).trans (hF b hb)
  refine lv_bipush (v := nI 60) S.1 S.2.1 dX3_product_4 (by decide) ?_
  refine lv_iload_n S.1 S.2.1 dX3_product_6 rfl (lv_at hl 2 rfl) ?_
  refine lv_imul S.1 S.2.1 dX3_product_7 ?_
  refine tpi (x' := nI (60 * a)) (pk_mul _ _) ?_
  refine lv_istore (lv' := [(4, .int (nI (60 * a))), (0, .ref (M)), (1, .int (nI z)), (2, .int (nI a)), (3, .int (nI b))]) S.1 S.2.1 dX3_product_8 hl (by decide) rfl (fun ls hl => ?_)
  refine wlp (P := fun k_ ls H' locs' => ∃ (i m : Nat) (bg : Int32) (fc fh fl : Nat → Int64) (v : Wm), lv_has ls 10 [(0, .ref (M)), (1, .int (nI z)), (2, .int (nI a)), (3, .int (nI b)), (4, .int (nI (60 * a + i)))] ∧ HS G B v (n) s H' locs' ∧ v (M) = some (eO 3 [.ref (M + 1), .ref (M + 2), .ref (M + 3), .ref (M + 4), .int (hc), .int (pc), .ref (M + 5), .ref (M + 6), .ref (M + 7), .ref (M + 8), .ref (M + 9), .int (nI m), .int (bg), .ref (M + 10), .ref (M + 11), .ref (M + 12)]) ∧ v (M + 1) = some (eI G (62) (ma)) ∧ v (M + 2) = some (eJ G (3720) (gc)) ∧ v (M + 3) = some (eJ G (3720) (gh)) ∧ v (M + 4) = some (eJ G (3720) (gl)) ∧ v (M + 10) = some (eJ G (3700) (fc)) ∧ v (M + 11) = some (eJ G (3700) (fh)) ∧ v (M + 12) = some (eJ G (3700) (fl)) ∧ (∀ b, b < M ∨ M + 13 ≤ b ∨ (M + 5 ≤ b ∧ b < M + 10) → v b = w b) ∧ (i ≤ X.length) ∧ (m ≤ i * Y.length) ∧ (PI bg fc fh fl X Y m i 0) ∧ k_ = X.length - i) ?_ (k0 := X.length - (0)) ⟨0, 0, nI 0, fc, fh, fl, w1, lv_sub hl [1, 2, 3, 4, 0] rfl, hH, m0, m1, m2, m3, m4, m10, m11, m12, hF, by omega, by omega, PI_0, rfl⟩
  intro k10 ls H locs hP ih10
  obtain ⟨i, m, bg, fc, fh, fl, v, hl, hH, m0, m1, m2, m3, m4, m10, m11, m12, hF, hi, hmm, hPI, hk10⟩ := hP
  refine lv_iload S.1 S.2.1 dX3_product_10 (lv_at hl 4 rfl) ?_
  refine lv_bipush (v := nI 60) S.1 S.2.1 dX3_product_12 (by decide) ?_
  refine lv_iload_n S.1 S.2.1 dX3_product_14 rfl (lv_at hl 2 rfl) ?_
  refine lv_imul S.1 S.2.1 dX3_product_15 ?_
  refine tpi (x' := nI (60 * a)) (pk_mul _ _) ?_
  refine lv_aload_n S.1 S.2.1 dX3_product_16 rfl (lv_at hl 0 rfl) ?_
  refine gfX3_9 S hK hH m0 dX3_product_17 ?_
  refine lv_iload_n S.1 S.2.1 dX3_product_20 rfl (lv_at hl 2 rfl) ?_
  refine ald_i S hK hH m1 (by omega) (by omega) dX3_product_21 ?_
  refine tpi (x' := nI (X.length)) (hmx) ?_
  refine lv_iadd S.1 S.2.1 dX3_product_22 ?_
  refine tpi (x' := nI (60 * a + X.length)) (nI_add _ _) ?_
  refine bn_ge (tgt := 149) S dX3_product_23 (by decide) (by omega) (fun c23 => ?_) (fun c23 => ?_)
  · skip
    have ei : i = X.length := by omega
    subst ei
    have hmul : X.length * Y.length ≤ 60 * 60 := Nat.mul_le_mul (by omega) (by omega)
    refine lv_aload_n S.1 S.2.1 dX3_product_149 rfl (lv_at hl 0 rfl) ?_
    refine lv_iload_n S.1 S.2.1 dX3_product_150 rfl (lv_at hl 1 rfl) ?_
    refine ck_i (run_V (As := [.int (nI z)]) (rest := []) S hK hH (kX3_to M z m (pF X Y X.length 0) (if X.length = 0 then [] else fp X Y) Sl hc pc bg ma gc gh gl fc fh fl m0 m1 m2 m3 m4 m10 m11 m12 hz (by omega) hsl (fun e => prod_A hPI e okx oky)) ceX3_to mW365 m0 rfl rfl hl.1 rfl (Nat.le_of_ble_eq_true rfl) dX3_product_151 ⟨rfl, rfl, by decide, by decide⟩ ⟨show 0 + 0 ≤ 0 by omega, show 0 + 0 ≤ 0 by omega⟩) hH (fun r151 w2 n2 H locs hp hH => ?_)
    obtain ⟨hn1, hfr, ⟨⟨cnt9, fc, fh, fl, m0, m10, m11, m12⟩, ma9, gc9, gh9, gl9, m1, m2, m3, m4, hq5⟩⟩ := hp
    rw [hn1] at hH
    replace hq5 : Hid _ := hq5
    replace hF : ∀ b, b < M ∨ M + 13 ≤ b ∨ (M + 5 ≤ b ∧ b < M + 10) → w2 b = w b := fun b hb => (hfr b (by omega)).trans (hF b hb)
    exact rt_z S hr hlk hH dX3_product_154 (by rcases hq5 with ⟨e, _⟩ | ⟨e, _⟩ <;> simp [e]) (⟨rfl, hF, _, _, _, _, _, _, _, _, _, m0, m10, m11, m12, m1, m2, m3, m4, prod_Q hPI okx oky hq5⟩)
  · skip
    have ci : i < X.length := by omega
    have hmul : i * Y.length ≤ 59 * 60 := Nat.mul_le_mul (by omega) (by omega)
    refine lv_bipush (v := nI 60) S.1 S.2.1 dX3_product_26 (by decide) ?_
    refine lv_iload_n S.1 S.2.1 dX3_product_28 rfl (lv_at hl 3 rfl) ?_
    refine lv_imul S.1 S.2.1 dX3_product_29 ?_
    refine tpi (x' := nI (60 * b)) (pk_mul _ _) ?_
    refine lv_istore (lv' := [(5, .int (nI (60 * b))), (0, .ref (M)), (1, .int (nI z)), (2, .int (nI a)), (3, .int (nI b)), (4, .int (nI (60 * a + i)))]) S.1 S.2.1 dX3_product_30 hl (by decide) rfl (fun ls hl => ?_)
    refine wlp (P := fun k_ ls H' locs' => ∃ (j m : Nat) (bg : Int32) (fc fh fl : Nat → Int64) (v : Wm), lv_has ls 10 [(0, .ref (M)), (1, .int (nI z)), (2, .int (nI a)), (3, .int (nI b)), (4, .int (nI (60 * a + i))), (5, .int (nI (60 * b + j)))] ∧ HS G B v (n) s H' locs' ∧ v (M) = some (eO 3 [.ref (M + 1), .ref (M + 2), .ref (M + 3), .ref (M + 4), .int (hc), .int (pc), .ref (M + 5), .ref (M + 6), .ref (M + 7), .ref (M + 8), .ref (M + 9), .int (nI m), .int (bg), .ref (M + 10), .ref (M + 11), .ref (M + 12)]) ∧ v (M + 1) = some (eI G (62) (ma)) ∧ v (M + 2) = some (eJ G (3720) (gc)) ∧ v (M + 3) = some (eJ G (3720) (gh)) ∧ v (M + 4) = some (eJ G (3720) (gl)) ∧ v (M + 10) = some (eJ G (3700) (fc)) ∧ v (M + 11) = some (eJ G (3700) (fh)) ∧ v (M + 12) = some (eJ G (3700) (fl)) ∧ (∀ b, b < M ∨ M + 13 ≤ b ∨ (M + 5 ≤ b ∧ b < M + 10) → v b = w b) ∧ (j ≤ Y.length) ∧ (m ≤ i * Y.length + j) ∧ (PI bg fc fh fl X Y m i j) ∧ k_ = Y.length - j) ?_ (k0 := Y.length - (0)) ⟨0, m, bg, fc, fh, fl, v, lv_sub hl [1, 2, 3, 4, 5, 0] rfl, hH, m0, m1, m2, m3, m4, m10, m11, m12, hF, by omega, by omega, hPI, rfl⟩
    intro k32 ls H locs hP ih32
    obtain ⟨j, m, bg, fc, fh, fl, v, hl, hH, m0, m1, m2, m3, m4, m10, m11, m12, hF, hj, hmm, hPI, hk32⟩ := hP
    refine lv_iload S.1 S.2.1 dX3_product_32 (lv_at hl 5 rfl) ?_
    refine lv_bipush (v := nI 60) S.1 S.2.1 dX3_product_34 (by decide) ?_
    refine lv_iload_n S.1 S.2.1 dX3_product_36 rfl (lv_at hl 3 rfl) ?_
    refine lv_imul S.1 S.2.1 dX3_product_37 ?_
    refine tpi (x' := nI (60 * b)) (pk_mul _ _) ?_
    refine lv_aload_n S.1 S.2.1 dX3_product_38 rfl (lv_at hl 0 rfl) ?_
    refine gfX3_9 S hK hH m0 dX3_product_39 ?_
    refine lv_iload_n S.1 S.2.1 dX3_product_42 rfl (lv_at hl 3 rfl) ?_
    refine ald_i S hK hH m1 (by omega) (by omega) dX3_product_43 ?_
    refine tpi (x' := nI (Y.length)) (hmy) ?_
    refine lv_iadd S.1 S.2.1 dX3_product_44 ?_
    refine tpi (x' := nI (60 * b + Y.length)) (nI_add _ _) ?_
    refine bn_ge (tgt := 143) S dX3_product_45 (by decide) (by omega) (fun c45 => ?_) (fun c45 => ?_)
    · skip
      have ej : j = Y.length := by omega
      rw [ej] at hPI hmm
      refine lv_iinc (v := nI (60 * a + i + 1)) (lv' := [(4, .int (nI (60 * a + i + 1))), (0, .ref (M)), (1, .int (nI z)), (2, .int (nI a)), (3, .int (nI b)), (5, .int (nI (60 * b + j)))]) S.1 S.2.1 dX3_product_143 hl (k := 4) rfl (nI_inc _ 1) (by decide) rfl (fun ls hl => ?_)
      refine lv_goto (tgt := 10) S.1 S.2.1 dX3_product_146 (by decide) ?_
      exact ih10 _ _ _ _ (by omega) ⟨i + 1, m, bg, _, _, _, v, lv_sub hl [1, 2, 3, 4, 0] rfl, hH, m0, m1, m2, m3, m4, m10, m11, m12, hF, by omega, by rw [Nat.succ_mul]; omega, PI_row hPI ci, rfl⟩
    · skip
      have cj : j < Y.length := by omega
      have hai := hsx i ci
      have hbj := hsy j cj
      have b1 : hiC (cd X i) < 800000000000000000 := cv8_lt _
      have b2 : loC (cd X i) < 800000000000000000 := cv8_lt _
      have b3 : hiC (cd Y j) < 800000000000000000 := cv8_lt _
      have b4 : loC (cd Y j) < 800000000000000000 := cv8_lt _
      refine lv_aload_n S.1 S.2.1 dX3_product_48 rfl (lv_at hl 0 rfl) ?_
      refine gfX3_17 S hK hH m0 dX3_product_49 ?_
      refine lv_iload S.1 S.2.1 dX3_product_52 (lv_at hl 4 rfl) ?_
      refine ald_l S hK hH m3 (by omega) (by omega) dX3_product_54 ?_
      refine tpl (x' := lN (hiC (cd X i))) (hai.2.1) ?_
      refine lv_aload_n S.1 S.2.1 dX3_product_55 rfl (lv_at hl 0 rfl) ?_
      refine gfX3_17 S hK hH m0 dX3_product_56 ?_
      refine lv_iload S.1 S.2.1 dX3_product_59 (lv_at hl 5 rfl) ?_
      refine ald_l S hK hH m3 (by omega) (by omega) dX3_product_61 ?_
      refine tpl (x' := lN (hiC (cd Y j))) (hbj.2.1) ?_
      refine lv_ladd S.1 S.2.1 dX3_product_62 ?_
      refine tpl (x' := lN (hiC (cd X i) + hiC (cd Y j))) (lN_add _ _) ?_
      refine lv_lstore (lv' := [(6, .long (lN (hiC (cd X i) + hiC (cd Y j)))), (0, .ref (M)), (1, .int (nI z)), (2, .int (nI a)), (3, .int (nI b)), (4, .int (nI (60 * a + i))), (5, .int (nI (60 * b + j)))]) S.1 S.2.1 dX3_product_63 hl (by decide) rfl (fun ls hl => ?_)
      refine lv_aload_n S.1 S.2.1 dX3_product_65 rfl (lv_at hl 1 rfl) ?_
      refine gfX3_20 S hK hH m0 dX3_product_66 ?_
      refine lv_iload S.1 S.2.1 dX3_product_69 (lv_at hl 5 rfl) ?_
      refine ald_l S hK hH m4 (by omega) (by omega) dX3_product_71 ?_
      refine tpl (x' := lN (loC (cd X i))) (hai.2.2) ?_
      refine lv_aload_n S.1 S.2.1 dX3_product_72 rfl (lv_at hl 1 rfl) ?_
      refine gfX3_20 S hK hH m0 dX3_product_73 ?_
      refine lv_iload S.1 S.2.1 dX3_product_76 (lv_at hl 6 rfl) ?_
      refine ald_l S hK hH m4 (by omega) (by omega) dX3_product_78 ?_
      refine tpl (x' := lN (loC (cd Y j))) (hbj.2.2) ?_
      refine lv_ladd S.1 S.2.1 dX3_product_79 ?_
      refine tpl (x' := lN (loC (cd X i) + loC (cd Y j))) (lN_add _ _) ?_
      refine lv_lstore (lv' := [(8, .long (lN (loC (cd X i) + loC (cd Y j)))), (6, .long (lN (hiC (cd X i) + hiC (cd Y j)))), (0, .ref (M)), (1, .int (nI z)), (2, .int (nI a)), (3, .int (nI b)), (4, .int (nI (60 * a + i))), (5, .int (nI (60 * b + j)))]) S.1 S.2.1 dX3_product_80 hl (by decide) rfl (fun ls hl => ?_)
      refine lv_aload_n S.1 S.2.1 dX3_product_82 rfl (lv_at hl 2 rfl) ?_
      refine lv_aload_n S.1 S.2.1 dX3_product_83 rfl (lv_at hl 2 rfl) ?_
      refine gfX3_51 S hK hH m0 dX3_product_84 ?_
      refine lv_if_ne (tgt := 106) S.1 S.2.1 dX3_product_87 (by decide) (fun c87 => ?_) (fun c87 => ?_)
      · skip
        have hP9 := PI_f1 hPI c87
        refine lv_iconst (v := nI 1) S.1 S.2.1 dX3_product_106 (by decide) ?_
        refine lv_goto (tgt := 111) S.1 S.2.1 dX3_product_107 (by decide) ?_
        refine pfX3_51 S hK hH m0 (by decide) dX3_product_111 (fun w3 H locs m0 fr hH => ?_)
        replace m1 := (fr (M + 1) (by omega)).trans m1
        replace m2 := (fr (M + 2) (by omega)).trans m2
        replace m3 := (fr (M + 3) (by omega)).trans m3
        replace m4 := (fr (M + 4) (by omega)).trans m4
        replace m10 := (fr (M + 10) (by omega)).trans m10
        replace m11 := (fr (M + 11) (by omega)).trans m11
        replace m12 := (fr (M + 12) (by omega)).trans m12
        replace hF : ∀ b, b < M ∨ M + 13 ≤ b ∨ (M + 5 ≤ b ∧ b < M + 10) → w3 b = w b := fun b hb => (fr b (by omega)).trans (hF b hb)
        refine lv_aload_n S.1 S.2.1 dX3_product_114 rfl (lv_at hl 2 rfl) ?_
        refine lv_aload_n S.1 S.2.1 dX3_product_115 rfl (lv_at hl 2 rfl) ?_
        refine gfX3_13 S hK hH m0 dX3_product_116 ?_
        refine lv_iload S.1 S.2.1 dX3_product_119 (lv_at hl 6 rfl) ?_
        refine ald_l S hK hH m2 (by omega) (by omega) dX3_product_121 ?_
        refine tpl (x' := lI (cf X i)) (hai.1) ?_
        refine lv_aload_n S.1 S.2.1 dX3_product_122 rfl (lv_at hl 2 rfl) ?_
        refine gfX3_13 S hK hH m0 dX3_product_123 ?_
        refine lv_iload S.1 S.2.1 dX3_product_126 (lv_at hl 7 rfl) ?_
        refine ald_l S hK hH m2 (by omega) (by omega) dX3_product_128 ?_
        refine tpl (x' := lI (cf Y j)) (hbj.1) ?_
        refine lv_lmul S.1 S.2.1 dX3_product_129 ?_
        refine tpl (x' := lI (cf X i * cf Y j)) (lI_mul _ _) ?_
        refine lv_lload S.1 S.2.1 dX3_product_130 (lv_at hl 1 rfl) ?_
        refine lv_lload S.1 S.2.1 dX3_product_132 (lv_at hl 0 rfl) ?_
        refine ck_v (run_V (As := [.long (lI (cf X i * cf Y j)), .long (lN (hiC (cd X i) + hiC (cd Y j))), .long (lN (loC (cd X i) + loC (cd Y j)))]) (rest := []) S hK hH (kX3_add M m (lI (cf X i * cf Y j)) (lN (hiC (cd X i) + hiC (cd Y j))) (lN (loC (cd X i) + loC (cd Y j))) hc pc (nI 1) fc fh fl m0 m10 m11 m12 (by omega)) ceX3_add mW361 m0 rfl rfl hl.1 rfl (Nat.le_of_ble_eq_true rfl) dX3_product_134 ⟨rfl, rfl, by decide, by decide⟩ ⟨show 0 + 0 ≤ 0 by omega, show 0 + 0 ≤ 0 by omega⟩) hH (fun w4 n4 H locs hp hH => ?_)
        obtain ⟨hn1, hfr, hq9⟩ := hp
        rw [hn1] at hH
        replace hq9 : Hid _ := hq9
        obtain ⟨m9, fc, fh, fl, hm9, m0, m10, m11, m12, har9⟩ := add_post hq9
        replace m1 := (hfr (M + 1) (by omega)).trans m1
        replace m2 := (hfr (M + 2) (by omega)).trans m2
        replace m3 := (hfr (M + 3) (by omega)).trans m3
        replace m4 := (hfr (M + 4) (by omega)).trans m4
        replace hF : ∀ b, b < M ∨ M + 13 ≤ b ∨ (M + 5 ≤ b ∧ b < M + 10) → w4 b = w b := fun b hb => (hfr b (by omega)).trans (hF b hb)
        refine lv_iinc (v := nI (60 * b + j + 1)) (lv' := [(5, .int (nI (60 * b + j + 1))), (8, .long (lN (loC (cd X i) + loC (cd Y j)))), (6, .long (lN (hiC (cd X i) + hiC (cd Y j)))), (0, .ref (M)), (1, .int (nI z)), (2, .int (nI a)), (3, .int (nI b)), (4, .int (nI (60 * a + i)))]) S.1 S.2.1 dX3_product_137 hl (k := 7) rfl (nI_inc _ 1) (by decide) rfl (fun ls hl => ?_)
        refine lv_goto (tgt := 32) S.1 S.2.1 dX3_product_140 (by decide) ?_
        exact ih32 _ _ _ _ (by omega) ⟨j + 1, m9, nI 1, _, _, _, w4, lv_sub hl [3, 4, 5, 6, 7, 0] rfl, hH, m0, m1, m2, m3, m4, m10, m11, m12, hF, by omega, by omega, Or.inr ⟨rfl, hP9⟩, rfl⟩
      · skip
        refine lv_lload S.1 S.2.1 dX3_product_90 (lv_at hl 1 rfl) ?_
        refine ck_ip (run_S (As := [.long (lN (hiC (cd X i) + hiC (cd Y j)))]) (rest := [.ref (M)]) S hK hH (kX3_isFar (hiC (cd X i) + hiC (cd Y j)) (by omega)) ceX3_isFar mW412 rfl hl.1 rfl (Nat.le_of_ble_eq_true rfl) dX3_product_92 ⟨rfl, rfl, by decide, by decide⟩ ⟨show 0 + 0 ≤ 0 by omega, show 0 + 0 ≤ 0 by omega⟩) hH (fun r92 H locs hp hH => ?_)
        have hq1 : Hid _ := hp
        clear hp
        refine lv_if_ne (tgt := 106) S.1 S.2.1 dX3_product_95 (by decide) (fun c95 => ?_) (fun c95 => ?_)
        · skip
          have hP9 : ∃ t ∈ X, ∃ s ∈ Y, ∃ q, q < 16 ∧ 9 < dp q t.1 + dp q s.1 := PI_f2 ci cj (r0_1 hq1 c95)
          refine lv_iconst (v := nI 1) S.1 S.2.1 dX3_product_106 (by decide) ?_
          refine lv_goto (tgt := 111) S.1 S.2.1 dX3_product_107 (by decide) ?_
          refine pfX3_51 S hK hH m0 (by decide) dX3_product_111 (fun w6 H locs m0 fr hH => ?_)
          replace m1 := (fr (M + 1) (by omega)).trans m1
          replace m2 := (fr (M + 2) (by omega)).trans m2
          replace m3 := (fr (M + 3) (by omega)).trans m3
          replace m4 := (fr (M + 4) (by omega)).trans m4
          replace m10 := (fr (M + 10) (by omega)).trans m10
          replace m11 := (fr (M + 11) (by omega)).trans m11
          replace m12 := (fr (M + 12) (by omega)).trans m12
          replace hF : ∀ b, b < M ∨ M + 13 ≤ b ∨ (M + 5 ≤ b ∧ b < M + 10) → w6 b = w b := fun b hb => (fr b (by omega)).trans (hF b hb)
          refine lv_aload_n S.1 S.2.1 dX3_product_114 rfl (lv_at hl 2 rfl) ?_
          refine lv_aload_n S.1 S.2.1 dX3_product_115 rfl (lv_at hl 2 rfl) ?_
          refine gfX3_13 S hK hH m0 dX3_product_116 ?_
          refine lv_iload S.1 S.2.1 dX3_product_119 (lv_at hl 6 rfl) ?_
          refine ald_l S hK hH m2 (by omega) (by omega) dX3_product_121 ?_
          refine tpl (x' := lI (cf X i)) (hai.1) ?_
          refine lv_aload_n S.1 S.2.1 dX3_product_122 rfl (lv_at hl 2 rfl) ?_
          refine gfX3_13 S hK hH m0 dX3_product_123 ?_
          refine lv_iload S.1 S.2.1 dX3_product_126 (lv_at hl 7 rfl) ?_
          refine ald_l S hK hH m2 (by omega) (by omega) dX3_product_128 ?_
          refine tpl (x' := lI (cf Y j)) (hbj.1) ?_
          refine lv_lmul S.1 S.2.1 dX3_product_129 ?_
          refine tpl (x' := lI (cf X i * cf Y j)) (lI_mul _ _) ?_
          refine lv_lload S.1 S.2.1 dX3_product_130 (lv_at hl 1 rfl) ?_
          refine lv_lload S.1 S.2.1 dX3_product_132 (lv_at hl 0 rfl) ?_
          refine ck_v (run_V (As := [.long (lI (cf X i * cf Y j)), .long (lN (hiC (cd X i) + hiC (cd Y j))), .long (lN (loC (cd X i) + loC (cd Y j)))]) (rest := []) S hK hH (kX3_add M m (lI (cf X i * cf Y j)) (lN (hiC (cd X i) + hiC (cd Y j))) (lN (loC (cd X i) + loC (cd Y j))) hc pc (nI 1) fc fh fl m0 m10 m11 m12 (by omega)) ceX3_add mW361 m0 rfl rfl hl.1 rfl (Nat.le_of_ble_eq_true rfl) dX3_product_134 ⟨rfl, rfl, by decide, by decide⟩ ⟨show 0 + 0 ≤ 0 by omega, show 0 + 0 ≤ 0 by omega⟩) hH (fun w7 n7 H locs hp hH => ?_)
          obtain ⟨hn1, hfr, hq9⟩ := hp
          rw [hn1] at hH
          replace hq9 : Hid _ := hq9
          obtain ⟨m9, fc, fh, fl, hm9, m0, m10, m11, m12, har9⟩ := add_post hq9
          replace m1 := (hfr (M + 1) (by omega)).trans m1
          replace m2 := (hfr (M + 2) (by omega)).trans m2
          replace m3 := (hfr (M + 3) (by omega)).trans m3
          replace m4 := (hfr (M + 4) (by omega)).trans m4
          replace hF : ∀ b, b < M ∨ M + 13 ≤ b ∨ (M + 5 ≤ b ∧ b < M + 10) → w7 b = w b := fun b hb => (hfr b (by omega)).trans (hF b hb)
          refine lv_iinc (v := nI (60 * b + j + 1)) (lv' := [(5, .int (nI (60 * b + j + 1))), (8, .long (lN (loC (cd X i) + loC (cd Y j)))), (6, .long (lN (hiC (cd X i) + hiC (cd Y j)))), (0, .ref (M)), (1, .int (nI z)), (2, .int (nI a)), (3, .int (nI b)), (4, .int (nI (60 * a + i)))]) S.1 S.2.1 dX3_product_137 hl (k := 7) rfl (nI_inc _ 1) (by decide) rfl (fun ls hl => ?_)
          refine lv_goto (tgt := 32) S.1 S.2.1 dX3_product_140 (by decide) ?_
          exact ih32 _ _ _ _ (by omega) ⟨j + 1, m9, nI 1, _, _, _, w7, lv_sub hl [3, 4, 5, 6, 7, 0] rfl, hH, m0, m1, m2, m3, m4, m10, m11, m12, hF, by omega, by omega, Or.inr ⟨rfl, hP9⟩, rfl⟩
        · skip
          have hv1 := r0_0 hq1 c95
          refine lv_lload S.1 S.2.1 dX3_product_98 (lv_at hl 0 rfl) ?_
          refine ck_ip (run_S (As := [.long (lN (loC (cd X i) + loC (cd Y j)))]) (rest := [.ref (M)]) S hK hH (kX3_isFar (loC (cd X i) + loC (cd Y j)) (by omega)) ceX3_isFar mW412 rfl hl.1 rfl (Nat.le_of_ble_eq_true rfl) dX3_product_100 ⟨rfl, rfl, by decide, by decide⟩ ⟨show 0 + 0 ≤ 0 by omega, show 0 + 0 ≤ 0 by omega⟩) hH (fun r100 H locs hp hH => ?_)
          have hq2 : Hid _ := hp
          clear hp
          refine lv_if_eq (tgt := 110) S.1 S.2.1 dX3_product_103 (by decide) (fun c103 => ?_) (fun c103 => ?_)
          · skip
            have hv2 := r0_0 hq2 c103
            refine lv_iconst (v := nI 0) S.1 S.2.1 dX3_product_110 (by decide) ?_
            refine pfX3_51 S hK hH m0 (by decide) dX3_product_111 (fun w9 H locs m0 fr hH => ?_)
            replace m1 := (fr (M + 1) (by omega)).trans m1
            replace m2 := (fr (M + 2) (by omega)).trans m2
            replace m3 := (fr (M + 3) (by omega)).trans m3
            replace m4 := (fr (M + 4) (by omega)).trans m4
            replace m10 := (fr (M + 10) (by omega)).trans m10
            replace m11 := (fr (M + 11) (by omega)).trans m11
            replace m12 := (fr (M + 12) (by omega)).trans m12
            replace hF : ∀ b, b < M ∨ M + 13 ≤ b ∨ (M + 5 ≤ b ∧ b < M + 10) → w9 b = w b := fun b hb => (fr b (by omega)).trans (hF b hb)
            refine lv_aload_n S.1 S.2.1 dX3_product_114 rfl (lv_at hl 2 rfl) ?_
            refine lv_aload_n S.1 S.2.1 dX3_product_115 rfl (lv_at hl 2 rfl) ?_
            refine gfX3_13 S hK hH m0 dX3_product_116 ?_
            refine lv_iload S.1 S.2.1 dX3_product_119 (lv_at hl 6 rfl) ?_
            refine ald_l S hK hH m2 (by omega) (by omega) dX3_product_121 ?_
            refine tpl (x' := lI (cf X i)) (hai.1) ?_
            refine lv_aload_n S.1 S.2.1 dX3_product_122 rfl (lv_at hl 2 rfl) ?_
            refine gfX3_13 S hK hH m0 dX3_product_123 ?_
            refine lv_iload S.1 S.2.1 dX3_product_126 (lv_at hl 7 rfl) ?_
            refine ald_l S hK hH m2 (by omega) (by omega) dX3_product_128 ?_
            refine tpl (x' := lI (cf Y j)) (hbj.1) ?_
            refine lv_lmul S.1 S.2.1 dX3_product_129 ?_
            refine tpl (x' := lI (cf X i * cf Y j)) (lI_mul _ _) ?_
            refine lv_lload S.1 S.2.1 dX3_product_130 (lv_at hl 1 rfl) ?_
            refine lv_lload S.1 S.2.1 dX3_product_132 (lv_at hl 0 rfl) ?_
            refine ck_v (run_V (As := [.long (lI (cf X i * cf Y j)), .long (lN (hiC (cd X i) + hiC (cd Y j))), .long (lN (loC (cd X i) + loC (cd Y j)))]) (rest := []) S hK hH (kX3_add M m (lI (cf X i * cf Y j)) (lN (hiC (cd X i) + hiC (cd Y j))) (lN (loC (cd X i) + loC (cd Y j))) hc pc (nI 0) fc fh fl m0 m10 m11 m12 (by omega)) ceX3_add mW361 m0 rfl rfl hl.1 rfl (Nat.le_of_ble_eq_true rfl) dX3_product_134 ⟨rfl, rfl, by decide, by decide⟩ ⟨show 0 + 0 ≤ 0 by omega, show 0 + 0 ≤ 0 by omega⟩) hH (fun w10 n10 H locs hp hH => ?_)
            obtain ⟨hn1, hfr, hq9⟩ := hp
            rw [hn1] at hH
            replace hq9 : Hid _ := hq9
            obtain ⟨m9, fc, fh, fl, hm9, m0, m10, m11, m12, har9⟩ := add_post hq9
            replace m1 := (hfr (M + 1) (by omega)).trans m1
            replace m2 := (hfr (M + 2) (by omega)).trans m2
            replace m3 := (hfr (M + 3) (by omega)).trans m3
            replace m4 := (hfr (M + 4) (by omega)).trans m4
            replace hF : ∀ b, b < M ∨ M + 13 ≤ b ∨ (M + 5 ≤ b ∧ b < M + 10) → w10 b = w b := fun b hb => (hfr b (by omega)).trans (hF b hb)
            refine lv_iinc (v := nI (60 * b + j + 1)) (lv' := [(5, .int (nI (60 * b + j + 1))), (8, .long (lN (loC (cd X i) + loC (cd Y j)))), (6, .long (lN (hiC (cd X i) + hiC (cd Y j)))), (0, .ref (M)), (1, .int (nI z)), (2, .int (nI a)), (3, .int (nI b)), (4, .int (nI (60 * a + i)))]) S.1 S.2.1 dX3_product_137 hl (k := 7) rfl (nI_inc _ 1) (by decide) rfl (fun ls hl => ?_)
            refine lv_goto (tgt := 32) S.1 S.2.1 dX3_product_140 (by decide) ?_
            exact ih32 _ _ _ _ (by omega) ⟨j + 1, m9, nI 0, _, _, _, w10, lv_sub hl [3, 4, 5, 6, 7, 0] rfl, hH, m0, m1, m2, m3, m4, m10, m11, m12, hF, by omega, by omega, PI_ok hPI c87 okx oky ci cj hv1 hv2 har9, rfl⟩
          · skip
            have hP9 : ∃ t ∈ X, ∃ s ∈ Y, ∃ q, q < 16 ∧ 9 < dp q t.1 + dp q s.1 := PI_f3 ci cj (r0_1 hq2 c103)
            refine lv_iconst (v := nI 1) S.1 S.2.1 dX3_product_106 (by decide) ?_
            refine lv_goto (tgt := 111) S.1 S.2.1 dX3_product_107 (by decide) ?_
            refine pfX3_51 S hK hH m0 (by decide) dX3_product_111 (fun w11 H locs m0 fr hH => ?_)
            replace m1 := (fr (M + 1) (by omega)).trans m1
            replace m2 := (fr (M + 2) (by omega)).trans m2
            replace m3 := (fr (M + 3) (by omega)).trans m3
            replace m4 := (fr (M + 4) (by omega)).trans m4
            replace m10 := (fr (M + 10) (by omega)).trans m10
            replace m11 := (fr (M + 11) (by omega)).trans m11
            replace m12 := (fr (M + 12) (by omega)).trans m12
            replace hF : ∀ b, b < M ∨ M + 13 ≤ b ∨ (M + 5 ≤ b ∧ b < M + 10) → w11 b = w b := fun b hb => (fr b (by omega)).trans (hF b hb)
            refine lv_aload_n S.1 S.2.1 dX3_product_114 rfl (lv_at hl 2 rfl) ?_
            refine lv_aload_n S.1 S.2.1 dX3_product_115 rfl (lv_at hl 2 rfl) ?_
            refine gfX3_13 S hK hH m0 dX3_product_116 ?_
            refine lv_iload S.1 S.2.1 dX3_product_119 (lv_at hl 6 rfl) ?_
            refine ald_l S hK hH m2 (by omega) (by omega) dX3_product_121 ?_
            refine tpl (x' := lI (cf X i)) (hai.1) ?_
            refine lv_aload_n S.1 S.2.1 dX3_product_122 rfl (lv_at hl 2 rfl) ?_
            refine gfX3_13 S hK hH m0 dX3_product_123 ?_
            refine lv_iload S.1 S.2.1 dX3_product_126 (lv_at hl 7 rfl) ?_
            refine ald_l S hK hH m2 (by omega) (by omega) dX3_product_128 ?_
            refine tpl (x' := lI (cf Y j)) (hbj.1) ?_
            refine lv_lmul S.1 S.2.1 dX3_product_129 ?_
            refine tpl (x' := lI (cf X i * cf Y j)) (lI_mul _ _) ?_
            refine lv_lload S.1 S.2.1 dX3_product_130 (lv_at hl 1 rfl) ?_
            refine lv_lload S.1 S.2.1 dX3_product_132 (lv_at hl 0 rfl) ?_
            refine ck_v (run_V (As := [.long (lI (cf X i * cf Y j)), .long (lN (hiC (cd X i) + hiC (cd Y j))), .long (lN (loC (cd X i) + loC (cd Y j)))]) (rest := []) S hK hH (kX3_add M m (lI (cf X i * cf Y j)) (lN (hiC (cd X i) + hiC (cd Y j))) (lN (loC (cd X i) + loC (cd Y j))) hc pc (nI 1) fc fh fl m0 m10 m11 m12 (by omega)) ceX3_add mW361 m0 rfl rfl hl.1 rfl (Nat.le_of_ble_eq_true rfl) dX3_product_134 ⟨rfl, rfl, by decide, by decide⟩ ⟨show 0 + 0 ≤ 0 by omega, show 0 + 0 ≤ 0 by omega⟩) hH (fun w12 n12 H locs hp hH => ?_)
            obtain ⟨hn1, hfr, hq9⟩ := hp
            rw [hn1] at hH
            replace hq9 : Hid _ := hq9
            obtain ⟨m9, fc, fh, fl, hm9, m0, m10, m11, m12, har9⟩ := add_post hq9
            replace m1 := (hfr (M + 1) (by omega)).trans m1
            replace m2 := (hfr (M + 2) (by omega)).trans m2
            replace m3 := (hfr (M + 3) (by omega)).trans m3
            replace m4 := (hfr (M + 4) (by omega)).trans m4
            replace hF : ∀ b, b < M ∨ M + 13 ≤ b ∨ (M + 5 ≤ b ∧ b < M + 10) → w12 b = w b := fun b hb => (hfr b (by omega)).trans (hF b hb)
            refine lv_iinc (v := nI (60 * b + j + 1)) (lv' := [(5, .int (nI (60 * b + j + 1))), (8, .long (lN (loC (cd X i) + loC (cd Y j)))), (6, .long (lN (hiC (cd X i) + hiC (cd Y j)))), (0, .ref (M)), (1, .int (nI z)), (2, .int (nI a)), (3, .int (nI b)), (4, .int (nI (60 * a + i)))]) S.1 S.2.1 dX3_product_137 hl (k := 7) rfl (nI_inc _ 1) (by decide) rfl (fun ls hl => ?_)
            refine lv_goto (tgt := 32) S.1 S.2.1 dX3_product_140 (by decide) ?_
            exact ih32 _ _ _ _ (by omega) ⟨j + 1, m9, nI 1, _, _, _, w12, lv_sub hl [3, 4, 5, 6, 7, 0] rfl, hH, m0, m1, m2, m3, m4, m10, m11, m12, hF, by omega, by omega, Or.inr ⟨rfl, hP9⟩, rfl⟩

