def ipw (x : Int64) : Nat → Int64
  | 0 => 1
  | k + 1 => x * ipw x k
/-- the value by Horner's way: v is reached, at the degree r -/
def hvL (x : Int64) : PL → Int64 → Nat → Int64
  | [], v, r => v * ipw x r
  | t :: L, v, r => hvL x L (v * ipw x (r - t.1 / 10000000000000000) + lI t.2) (min r (t.1 / 10000000000000000))
def hv0 (L : PL) : Nat := if 0 < L.length then cd L 0 / 10000000000000000 else 0
theorem lI16 : lI 10000000000000000 = lN 10000000000000000 := by decide
theorem div16 {c : Nat} (hc : c < 4611686018427387904) : lN c / lI 10000000000000000 = lN (c / 10000000000000000) := by
  rw [lI16, pk_lDiv (by omega) (by decide) (by decide)]
theorem hv0_pos {L : PL} (h : 0 < L.length) (hc : cd L 0 < 4611686018427387904) : lN (cd L 0) / lI 10000000000000000 = lN (hv0 L) := by
  rw [div16 hc, hv0, if_pos h]
theorem hv0_nil {L : PL} (h : L.length = 0) : lI 0 = lN (hv0 L) := by
  rw [hv0, if_neg (by omega)]; rfl
theorem hv0_lt {L : PL} (h : ∀ j, j < L.length → cd L j < 4611686018427387904 ∧ -2147483648 ≤ cf L j ∧ cf L j < 2147483648) : hv0 L < 4611686018427387904 := by
  unfold hv0
  split
  · rename_i q
    have := (h 0 q).1
    omega
  · decide
theorem lN_pred {r : Nat} (h : 1 ≤ r) : lN r - lI 1 = lN (r - 1) := lN_sub h
theorem hv_at {x v : Int64} {L : PL} {k r : Nat} (hk : k < L.length) (h : r ≤ cd L k / 10000000000000000) : hvL x (L.drop k) v r = hvL x (L.drop (k + 1)) (v + lI (cf L k)) r := by
  rw [drop_cd hk]
  show hvL x (L.drop (k + 1)) (v * ipw x (r - cd L k / 10000000000000000) + lI (cf L k)) (min r (cd L k / 10000000000000000)) = _
  rw [Nat.sub_eq_zero_of_le h, Nat.min_eq_left h]
  simp [ipw]
theorem hv_dn {x v : Int64} {L : PL} {k r : Nat} (hk : k < L.length) (h : cd L k / 10000000000000000 < r) : hvL x (L.drop k) v r = hvL x (L.drop k) (v * x) (r - 1) := by
  rw [drop_cd hk]
  show hvL x (L.drop (k + 1)) (v * ipw x (r - cd L k / 10000000000000000) + lI (cf L k)) (min r (cd L k / 10000000000000000)) = hvL x (L.drop (k + 1)) (v * x * ipw x (r - 1 - cd L k / 10000000000000000) + lI (cf L k)) (min (r - 1) (cd L k / 10000000000000000))
  rw [show r - cd L k / 10000000000000000 = (r - 1 - cd L k / 10000000000000000) + 1 by omega, show min r (cd L k / 10000000000000000) = min (r - 1) (cd L k / 10000000000000000) by omega]
  simp only [ipw, Int64.mul_assoc]
theorem hv_dn0 {x v : Int64} {r : Nat} (h : 0 < r) : hvL x [] v r = hvL x [] (v * x) (r - 1) := by
  show v * ipw x r = v * x * ipw x (r - 1)
  obtain ⟨q, rfl⟩ : ∃ q, r = q + 1 := ⟨r - 1, by omega⟩
  simp only [ipw, Int64.mul_assoc, Nat.add_sub_cancel]
/-- the greatest power of symbol t -/
def top (L : PL) (t : Nat) : Nat := L.foldl (fun m x => max m (dig x.1 t)) 0
theorem dig_lt (c t : Nat) : dig c t < 10 := Nat.mod_lt _ (by decide)
theorem top_fold (L : PL) (t m : Nat) (h : m < 10) : L.foldl (fun m x => max m (dig x.1 t)) m < 10 := by
  induction L generalizing m with
  | nil => exact h
  | cons x L ih => exact ih _ (show max m (dig x.1 t) < 10 by have := dig_lt x.1 t; omega)
theorem top_lt (L : PL) (t : Nat) : top L t < 10 := top_fold L t 0 (by decide)
theorem top_succ {L : PL} {k t : Nat} (h : k < L.length) : top (L.take (k + 1)) t = max (top (L.take k) t) (dig (cd L k) t) := by
  rw [take_cd h]; simp [top, List.foldl_append]
theorem mx_nI {a b : Nat} (ha : a < 10) (hb : b < 10) : (if nI a < nI b then nI b else nI a) = nI (max a b) := by
  by_cases h : a < b
  · rw [if_pos (nI_lt h (by omega)), Nat.max_eq_right (by omega)]
  · rw [if_neg (nI_nlt (by omega) (by omega)), Nat.max_eq_left (by omega)]
theorem div10b {c t : Nat} (hc : c < 4611686018427387904) : lN (c / 10 ^ t) / lI 10 = lN (c / 10 ^ (t + 1)) := by
  rw [lI10, pk_lDiv (Nat.lt_of_le_of_lt (Nat.div_le_self _ _) (by omega)) (by decide) (by decide), Nat.div_div_eq_div_mul, ← Nat.pow_succ]
theorem iI_dn {t : Nat} (h : t < 16) : iI (15 - (t : Int)) = nI (15 - t) := by
  rw [nI_iI]; congr 1; omega
theorem iI_dec (t : Nat) : iI (15 - (t : Int)) + Int32.ofInt (-1) = iI (15 - ((t + 1 : Nat) : Int)) := by
  show iI _ + iI (-1) = _
  rw [iI_add]; congr 1; omega
theorem tp_set {L : PL} {k t : Nat} {tq : Nat → Int32} (hk : k < L.length) (ht : t < 16) (h : ∀ u, 16 - t ≤ u → u < 16 → tq u = nI (top (L.take (k + 1)) u)) : ∀ u, 16 - (t + 1) ≤ u → u < 16 → upd tq (15 - t) (nI (max (top (L.take k) (15 - t)) (cd L k / 10 ^ t % 10))) u = nI (top (L.take (k + 1)) u) := by
  intro u h1 h2
  by_cases q : u = 15 - t
  · subst q
    rw [pk_us, top_succ hk]
    unfold dig
    rw [show 15 - (15 - t) = t by omega]
  · rw [pk_un q]
    exact h u (by omega) h2

set_option maxHeartbeats 4000000 in
set_option maxRecDepth 100000 in
theorem kX1_valueWith {l : Launch} {G : Gx} {B : Nat} {w : Wm} {n : Nat} (a cap : Nat) (L : PL) (tk : Int32) (tp : Nat → Int32) (x : Int32) (hp : PolyC G w a cap L tk tp) (hok : (∀ j, j < L.length → cd L j < 4611686018427387904 ∧ -2147483648 ≤ cf L j ∧ cf L j < 2147483648)) : Met l yX1_valueWith (wsM yX1_valueWith cX1_valueWith 9 (some .long)) ({ frames := 0, cells := 0, slots := 0, locals := 0 } : Room) (Pcx G B w n [.ref (a), .int (x)]) (Ql G B (fun r w' n' => w' = w ∧ n' = n ∧ r = hvL x.toInt64 L 0 (hv0 L))) 0 0 (FA B) := by
  refine en (by decide) (Nat.le_of_ble_eq_true rfl) ?_
  intro p ev s mm ag bl mt co S hr hlk hnm hK H hH ls hl
  have hl : lv_has ls 9 [(0, .ref (a)), (1, .int (x))] := hl
  obtain ⟨f, g, h0, h1, h2, h3, h4, h5, h6, h7, h8⟩ := hp
  refine lv_lconst (v := lI 0) S.1 S.2.1 dX1_valueWith_0 (by decide) ?_
  refine tpl (x' := (0 : Int64)) (by decide) ?_
  refine lv_lstore_n (lv' := [(2, .long ((0 : Int64))), (0, .ref (a)), (1, .int (x))]) S.1 S.2.1 dX1_valueWith_1 rfl hl (by decide) rfl (fun ls hl => ?_)
  refine lv_aload_n S.1 S.2.1 dX1_valueWith_2 rfl (lv_at hl 1 rfl) ?_
  refine gfX1_28 S hK hH h0 dX1_valueWith_3 ?_
  refine lv_if_le (tgt := 22) S.1 S.2.1 dX1_valueWith_6 (by decide) (fun c6 => ?_) (fun c6 => ?_)
  · skip
    have hz : L.length = 0 := by
      rcases Nat.eq_zero_or_pos L.length with q | q
      · exact q
      · exact absurd c6 (nI_nle q (by omega))
    refine lv_lconst (v := lI 0) S.1 S.2.1 dX1_valueWith_22 (by decide) ?_
    refine tpl (x' := lN (hv0 L)) (hv0_nil hz) ?_
    refine lv_lstore (lv' := [(4, .long (lN (hv0 L))), (2, .long ((0 : Int64))), (0, .ref (a)), (1, .int (x))]) S.1 S.2.1 dX1_valueWith_23 hl (by decide) rfl (fun ls hl => ?_)
    refine lv_iconst (v := nI 0) S.1 S.2.1 dX1_valueWith_25 (by decide) ?_
    refine lv_istore (lv' := [(6, .int (nI 0)), (4, .long (lN (hv0 L))), (2, .long ((0 : Int64))), (0, .ref (a)), (1, .int (x))]) S.1 S.2.1 dX1_valueWith_26 hl (by decide) rfl (fun ls hl => ?_)
    refine wlp (P := fun k_ ls H' locs' => ∃ (k r : Nat) (v : Int64), lv_has ls 9 [(0, .ref (a)), (1, .int (x)), (2, .long (v)), (4, .long (lN r)), (6, .int (nI k))] ∧ (H = H' ∧ [] = locs') ∧ (k ≤ L.length) ∧ (r < 4611686018427387904) ∧ (hvL x.toInt64 L 0 (hv0 L) = hvL x.toInt64 (L.drop k) v r) ∧ k_ = L.length - k) ?_ (k0 := L.length - (0)) ⟨0, hv0 L, 0, lv_sub hl [3, 4, 2, 1, 0] rfl, ⟨rfl, rfl⟩, Nat.zero_le _, hv0_lt hok, rfl, rfl⟩
    intro k28 ls H' locs' hP ih28
    obtain ⟨k, r, v, hl, ⟨rfl, rfl⟩, hk, hr1, hv, hk28⟩ := hP
    refine lv_iload S.1 S.2.1 dX1_valueWith_28 (lv_at hl 4 rfl) ?_
    refine lv_aload_n S.1 S.2.1 dX1_valueWith_30 rfl (lv_at hl 0 rfl) ?_
    refine gfX1_28 S hK hH h0 dX1_valueWith_31 ?_
    refine bn_ge (tgt := 89) S dX1_valueWith_34 (by decide) (by omega) (fun c34 => ?_) (fun c34 => ?_)
    · skip
      refine wlp (P := fun k_ ls H' locs' => ∃ (r : Nat) (v : Int64), lv_has ls 9 [(0, .ref (a)), (1, .int (x)), (2, .long (v)), (4, .long (lN r))] ∧ (H = H' ∧ [] = locs') ∧ (r < 4611686018427387904) ∧ (hvL x.toInt64 L 0 (hv0 L) = hvL x.toInt64 [] v r) ∧ k_ = r) ?_ (k0 := (r)) ⟨r, v, lv_sub hl [0, 1, 2, 3] rfl, ⟨rfl, rfl⟩, hr1, by rw [hv, List.drop_of_length_le c34], rfl⟩
      intro k89 ls H' locs' hP ih89
      obtain ⟨r, v, hl, ⟨rfl, rfl⟩, hr1, hv, hk89⟩ := hP
      refine lv_lload S.1 S.2.1 dX1_valueWith_89 (lv_at hl 3 rfl) ?_
      refine lv_lconst (v := lI 0) S.1 S.2.1 dX1_valueWith_91 (by decide) ?_
      refine tpl (x' := lN 0) (rfl) ?_
      refine bl_le (tgt := 110) S dX1_valueWith_92 dX1_valueWith_93 (by decide) (fun c92 => ?_) (fun c92 => ?_)
      · skip
        have c92 : r = 0 := Nat.le_zero.mp ((pk_lLE (by omega) (by omega)).mp c92)
        refine lv_lload_n S.1 S.2.1 dX1_valueWith_110 rfl (lv_at hl 2 rfl) ?_
        exact rt_l S hr hlk hH dX1_valueWith_111 (⟨rfl, rfl, by rw [hv, c92]; simp [hvL, ipw]⟩)
      · skip
        have c92 : 0 < r := Nat.lt_of_not_le (fun q => c92 ((pk_lLE (by omega) (by omega)).mpr q))
        refine lv_lload_n S.1 S.2.1 dX1_valueWith_96 rfl (lv_at hl 2 rfl) ?_
        refine lv_iload_n S.1 S.2.1 dX1_valueWith_97 rfl (lv_at hl 1 rfl) ?_
        refine lv_i2l (v := (x).toInt64) S.1 S.2.1 dX1_valueWith_98 (rfl) ?_
        refine lv_lmul S.1 S.2.1 dX1_valueWith_99 ?_
        refine lv_lstore_n (lv' := [(2, .long ((v * (x).toInt64))), (0, .ref (a)), (1, .int (x)), (4, .long (lN r))]) S.1 S.2.1 dX1_valueWith_100 rfl hl (by decide) rfl (fun ls hl => ?_)
        refine lv_lload S.1 S.2.1 dX1_valueWith_101 (lv_at hl 3 rfl) ?_
        refine lv_lconst (v := lI 1) S.1 S.2.1 dX1_valueWith_103 (by decide) ?_
        refine lv_lsub S.1 S.2.1 dX1_valueWith_104 ?_
        refine tpl (x' := lN (r - 1)) (lN_pred (by omega)) ?_
        refine lv_lstore (lv' := [(4, .long (lN (r - 1))), (2, .long ((v * (x).toInt64))), (0, .ref (a)), (1, .int (x))]) S.1 S.2.1 dX1_valueWith_105 hl (by decide) rfl (fun ls hl => ?_)
        refine lv_goto (tgt := 89) S.1 S.2.1 dX1_valueWith_107 (by decide) ?_
        exact ih89 _ _ _ _ (by omega) ⟨_, _, lv_sub hl [2, 3, 1, 0] rfl, ⟨rfl, rfl⟩, by omega, hv.trans (hv_dn0 c92), rfl⟩
    · skip
      have hb := hok k c34
      refine lv_aload_n S.1 S.2.1 dX1_valueWith_37 rfl (lv_at hl 0 rfl) ?_
      refine gfX1_18 S hK hH h0 dX1_valueWith_38 ?_
      refine lv_iload S.1 S.2.1 dX1_valueWith_41 (lv_at hl 4 rfl) ?_
      refine ald_l S hK hH h1 (by omega) (by omega) dX1_valueWith_43 ?_
      refine tpl (x' := lN (cd L k)) (h6 k c34) ?_
      refine lv_ldc2 S.1 S.2.1 S.2.2.2.1 (S.2.2.2.2 _ mW258) dX1_valueWith_44 ?_
      refine tpl (x' := lI 10000000000000000) (by decide) ?_
      refine lv_ldiv S.1 S.2.1 dX1_valueWith_47 (by decide) ?_
      refine tpl (x' := lN (cd L k / 10000000000000000)) (div16 hb.1) ?_
      refine lv_lstore (lv' := [(7, .long (lN (cd L k / 10000000000000000))), (0, .ref (a)), (1, .int (x)), (2, .long (v)), (4, .long (lN r)), (6, .int (nI k))]) S.1 S.2.1 dX1_valueWith_48 hl (by decide) rfl (fun ls hl => ?_)
      refine wlp (P := fun k_ ls H' locs' => ∃ (r : Nat) (v : Int64), lv_has ls 9 [(0, .ref (a)), (1, .int (x)), (2, .long (v)), (4, .long (lN r)), (6, .int (nI k)), (7, .long (lN (cd L k / 10000000000000000)))] ∧ (H = H' ∧ [] = locs') ∧ (r < 4611686018427387904) ∧ (hvL x.toInt64 L 0 (hv0 L) = hvL x.toInt64 (L.drop k) v r) ∧ k_ = r) ?_ (k0 := (r)) ⟨r, v, lv_sub hl [1, 2, 3, 4, 5, 0] rfl, ⟨rfl, rfl⟩, hr1, hv, rfl⟩
      intro k50 ls H' locs' hP ih50
      obtain ⟨r, v, hl, ⟨rfl, rfl⟩, hr1, hv, hk50⟩ := hP
      refine lv_lload S.1 S.2.1 dX1_valueWith_50 (lv_at hl 3 rfl) ?_
      refine lv_lload S.1 S.2.1 dX1_valueWith_52 (lv_at hl 5 rfl) ?_
      refine bl_le (tgt := 72) S dX1_valueWith_54 dX1_valueWith_55 (by decide) (fun c54 => ?_) (fun c54 => ?_)
      · skip
        have c54 := (pk_lLE (by omega) (by omega)).mp c54
        refine lv_lload_n S.1 S.2.1 dX1_valueWith_72 rfl (lv_at hl 2 rfl) ?_
        refine lv_aload_n S.1 S.2.1 dX1_valueWith_73 rfl (lv_at hl 0 rfl) ?_
        refine gfX1_24 S hK hH h0 dX1_valueWith_74 ?_
        refine lv_iload S.1 S.2.1 dX1_valueWith_77 (lv_at hl 4 rfl) ?_
        refine ald_i S hK hH h2 (by omega) (by omega) dX1_valueWith_79 ?_
        refine tpi (x' := iI (cf L k)) (h7 k c34) ?_
        refine lv_i2l (v := lI (cf L k)) S.1 S.2.1 dX1_valueWith_80 (iI_l (by omega)) ?_
        refine lv_ladd S.1 S.2.1 dX1_valueWith_81 ?_
        refine lv_lstore_n (lv' := [(2, .long ((v + lI (cf L k)))), (0, .ref (a)), (1, .int (x)), (4, .long (lN r)), (6, .int (nI k)), (7, .long (lN (cd L k / 10000000000000000)))]) S.1 S.2.1 dX1_valueWith_82 rfl hl (by decide) rfl (fun ls hl => ?_)
        refine lv_iinc (v := nI (k + 1)) (lv' := [(6, .int (nI (k + 1))), (2, .long ((v + lI (cf L k)))), (0, .ref (a)), (1, .int (x)), (4, .long (lN r)), (7, .long (lN (cd L k / 10000000000000000)))]) S.1 S.2.1 dX1_valueWith_83 hl (k := 4) rfl (nI_inc _ 1) (by decide) rfl (fun ls hl => ?_)
        refine lv_goto (tgt := 28) S.1 S.2.1 dX1_valueWith_86 (by decide) ?_
        exact ih28 _ _ _ _ (by omega) ⟨k + 1, _, _, lv_sub hl [2, 3, 1, 4, 0] rfl, ⟨rfl, rfl⟩, c34, hr1, hv.trans (hv_at c34 c54), rfl⟩
      · skip
        have c54 : cd L k / 10000000000000000 < r := Nat.lt_of_not_le (fun q => c54 ((pk_lLE (by omega) (by omega)).mpr q))
        refine lv_lload_n S.1 S.2.1 dX1_valueWith_58 rfl (lv_at hl 2 rfl) ?_
        refine lv_iload_n S.1 S.2.1 dX1_valueWith_59 rfl (lv_at hl 1 rfl) ?_
        refine lv_i2l (v := (x).toInt64) S.1 S.2.1 dX1_valueWith_60 (rfl) ?_
        refine lv_lmul S.1 S.2.1 dX1_valueWith_61 ?_
        refine lv_lstore_n (lv' := [(2, .long ((v * (x).toInt64))), (0, .ref (a)), (1, .int (x)), (4, .long (lN r)), (6, .int (nI k)), (7, .long (lN (cd L k / 10000000000000000)))]) S.1 S.2.1 dX1_valueWith_62 rfl hl (by decide) rfl (fun ls hl => ?_)
        refine lv_lload S.1 S.2.1 dX1_valueWith_63 (lv_at hl 3 rfl) ?_
        refine lv_lconst (v := lI 1) S.1 S.2.1 dX1_valueWith_65 (by decide) ?_
        refine lv_lsub S.1 S.2.1 dX1_valueWith_66 ?_
        refine tpl (x' := lN (r - 1)) (lN_pred (by omega)) ?_
        refine lv_lstore (lv' := [(4, .long (lN (r - 1))), (2, .long ((v * (x).toInt64))), (0, .ref (a)), (1, .int (x)), (6, .int (nI k)), (7, .long (lN (cd L k / 10000000000000000)))]) S.1 S.2.1 dX1_valueWith_67 hl (by decide) rfl (fun ls hl => ?_)
        refine lv_goto (tgt := 50) S.1 S.2.1 dX1_valueWith_69 (by decide) ?_
        exact ih50 _ _ _ _ (by omega) ⟨_, _, lv_sub hl [2, 3, 1, 0, 4, 5] rfl, ⟨rfl, rfl⟩, by omega, hv.trans (hv_dn c34 c54), rfl⟩
  · skip
    have hz : 0 < L.length := by
      rcases Nat.eq_zero_or_pos L.length with q | q
      · rw [q] at c6; exact absurd (by decide) c6
      · exact q
    have hb0 := hok 0 hz
    refine lv_aload_n S.1 S.2.1 dX1_valueWith_9 rfl (lv_at hl 1 rfl) ?_
    refine gfX1_18 S hK hH h0 dX1_valueWith_10 ?_
    refine lv_iconst (v := nI 0) S.1 S.2.1 dX1_valueWith_13 (by decide) ?_
    refine ald_l S hK hH h1 (by omega) (by omega) dX1_valueWith_14 ?_
    refine tpl (x' := lN (cd L 0)) (h6 0 hz) ?_
    refine lv_ldc2 S.1 S.2.1 S.2.2.2.1 (S.2.2.2.2 _ mW258) dX1_valueWith_15 ?_
    refine tpl (x' := lI 10000000000000000) (by decide) ?_
    refine lv_ldiv S.1 S.2.1 dX1_valueWith_18 (by decide) ?_
    refine tpl (x' := lN (hv0 L)) (hv0_pos hz hb0.1) ?_
    refine lv_goto (tgt := 23) S.1 S.2.1 dX1_valueWith_19 (by decide) ?_
    refine lv_lstore (lv' := [(4, .long (lN (hv0 L))), (2, .long ((0 : Int64))), (0, .ref (a)), (1, .int (x))]) S.1 S.2.1 dX1_valueWith_23 hl (by decide) rfl (fun ls hl => ?_)
    refine lv_iconst (v := nI 0) S.1 S.2.1 dX1_valueWith_25 (by decide) ?_
    refine lv_istore (lv' := [(6, .int (nI 0)), (4, .long (lN (hv0 L))), (2, .long ((0 : Int64))), (0, .ref (a)), (1, .int (x))]) S.1 S.2.1 dX1_valueWith_26 hl (by decide) rfl (fun ls hl => ?_)
    refine wlp (P := fun k_ ls H' locs' => ∃ (k r : Nat) (v : Int64), lv_has ls 9 [(0, .ref (a)), (1, .int (x)), (2, .long (v)), (4, .long (lN r)), (6, .int (nI k))] ∧ (H = H' ∧ [] = locs') ∧ (k ≤ L.length) ∧ (r < 4611686018427387904) ∧ (hvL x.toInt64 L 0 (hv0 L) = hvL x.toInt64 (L.drop k) v r) ∧ k_ = L.length - k) ?_ (k0 := L.length - (0)) ⟨0, hv0 L, 0, lv_sub hl [3, 4, 2, 1, 0] rfl, ⟨rfl, rfl⟩, Nat.zero_le _, hv0_lt hok, rfl, rfl⟩
    intro k28 ls H' locs' hP ih28
    obtain ⟨k, r, v, hl, ⟨rfl, rfl⟩, hk, hr1, hv, hk28⟩ := hP
    refine lv_iload S.1 S.2.1 dX1_valueWith_28 (lv_at hl 4 rfl) ?_
    refine lv_aload_n S.1 S.2.1 dX1_valueWith_30 rfl (lv_at hl 0 rfl) ?_
    refine gfX1_28 S hK hH h0 dX1_valueWith_31 ?_
    refine bn_ge (tgt := 89) S dX1_valueWith_34 (by decide) (by omega) (fun c34 => ?_) (fun c34 => ?_)
    · skip
      refine wlp (P := fun k_ ls H' locs' => ∃ (r : Nat) (v : Int64), lv_has ls 9 [(0, .ref (a)), (1, .int (x)), (2, .long (v)), (4, .long (lN r))] ∧ (H = H' ∧ [] = locs') ∧ (r < 4611686018427387904) ∧ (hvL x.toInt64 L 0 (hv0 L) = hvL x.toInt64 [] v r) ∧ k_ = r) ?_ (k0 := (r)) ⟨r, v, lv_sub hl [0, 1, 2, 3] rfl, ⟨rfl, rfl⟩, hr1, by rw [hv, List.drop_of_length_le c34], rfl⟩
      intro k89 ls H' locs' hP ih89
      obtain ⟨r, v, hl, ⟨rfl, rfl⟩, hr1, hv, hk89⟩ := hP
      refine lv_lload S.1 S.2.1 dX1_valueWith_89 (lv_at hl 3 rfl) ?_
      refine lv_lconst (v := lI 0) S.1 S.2.1 dX1_valueWith_91 (by decide) ?_
      refine tpl (x' := lN 0) (rfl) ?_
      refine bl_le (tgt := 110) S dX1_valueWith_92 dX1_valueWith_93 (by decide) (fun c92 => ?_) (fun c92 => ?_)
      · skip
        have c92 : r = 0 := Nat.le_zero.mp ((pk_lLE (by omega) (by omega)).mp c92)
        refine lv_lload_n S.1 S.2.1 dX1_valueWith_110 rfl (lv_at hl 2 rfl) ?_
        exact rt_l S hr hlk hH dX1_valueWith_111 (⟨rfl, rfl, by rw [hv, c92]; simp [hvL, ipw]⟩)
      · skip
        have c92 : 0 < r := Nat.lt_of_not_le (fun q => c92 ((pk_lLE (by omega) (by omega)).mpr q))
        refine lv_lload_n S.1 S.2.1 dX1_valueWith_96 rfl (lv_at hl 2 rfl) ?_
        refine lv_iload_n S.1 S.2.1 dX1_valueWith_97 rfl (lv_at hl 1 rfl) ?_
        refine lv_i2l (v := (x).toInt64) S.1 S.2.1 dX1_valueWith_98 (rfl) ?_
        refine lv_lmul S.1 S.2.1 dX1_valueWith_99 ?_
        refine lv_lstore_n (lv' := [(2, .long ((v * (x).toInt64))), (0, .ref (a)), (1, .int (x)), (4, .long (lN r))]) S.1 S.2.1 dX1_valueWith_100 rfl hl (by decide) rfl (fun ls hl => ?_)
        refine lv_lload S.1 S.2.1 dX1_valueWith_101 (lv_at hl 3 rfl) ?_
        refine lv_lconst (v := lI 1) S.1 S.2.1 dX1_valueWith_103 (by decide) ?_
        refine lv_lsub S.1 S.2.1 dX1_valueWith_104 ?_
        refine tpl (x' := lN (r - 1)) (lN_pred (by omega)) ?_
        refine lv_lstore (lv' := [(4, .long (lN (r - 1))), (2, .long ((v * (x).toInt64))), (0, .ref (a)), (1, .int (x))]) S.1 S.2.1 dX1_valueWith_105 hl (by decide) rfl (fun ls hl => ?_)
        refine lv_goto (tgt := 89) S.1 S.2.1 dX1_valueWith_107 (by decide) ?_
        exact ih89 _ _ _ _ (by omega) ⟨_, _, lv_sub hl [2, 3, 1, 0] rfl, ⟨rfl, rfl⟩, by omega, hv.trans (hv_dn0 c92), rfl⟩
    · skip
      have hb := hok k c34
      refine lv_aload_n S.1 S.2.1 dX1_valueWith_37 rfl (lv_at hl 0 rfl) ?_
      refine gfX1_18 S hK hH h0 dX1_valueWith_38 ?_
      refine lv_iload S.1 S.2.1 dX1_valueWith_41 (lv_at hl 4 rfl) ?_
      refine ald_l S hK hH h1 (by omega) (by omega) dX1_valueWith_43 ?_
      refine tpl (x' := lN (cd L k)) (h6 k c34) ?_
      refine lv_ldc2 S.1 S.2.1 S.2.2.2.1 (S.2.2.2.2 _ mW258) dX1_valueWith_44 ?_
      refine tpl (x' := lI 10000000000000000) (by decide) ?_
      refine lv_ldiv S.1 S.2.1 dX1_valueWith_47 (by decide) ?_
      refine tpl (x' := lN (cd L k / 10000000000000000)) (div16 hb.1) ?_
      refine lv_lstore (lv' := [(7, .long (lN (cd L k / 10000000000000000))), (0, .ref (a)), (1, .int (x)), (2, .long (v)), (4, .long (lN r)), (6, .int (nI k))]) S.1 S.2.1 dX1_valueWith_48 hl (by decide) rfl (fun ls hl => ?_)
      refine wlp (P := fun k_ ls H' locs' => ∃ (r : Nat) (v : Int64), lv_has ls 9 [(0, .ref (a)), (1, .int (x)), (2, .long (v)), (4, .long (lN r)), (6, .int (nI k)), (7, .long (lN (cd L k / 10000000000000000)))] ∧ (H = H' ∧ [] = locs') ∧ (r < 4611686018427387904) ∧ (hvL x.toInt64 L 0 (hv0 L) = hvL x.toInt64 (L.drop k) v r) ∧ k_ = r) ?_ (k0 := (r)) ⟨r, v, lv_sub hl [1, 2, 3, 4, 5, 0] rfl, ⟨rfl, rfl⟩, hr1, hv, rfl⟩
      intro k50 ls H' locs' hP ih50
      obtain ⟨r, v, hl, ⟨rfl, rfl⟩, hr1, hv, hk50⟩ := hP
      refine lv_lload S.1 S.2.1 dX1_valueWith_50 (lv_at hl 3 rfl) ?_
      refine lv_lload S.1 S.2.1 dX1_valueWith_52 (lv_at hl 5 rfl) ?_
      refine bl_le (tgt := 72) S dX1_valueWith_54 dX1_valueWith_55 (by decide) (fun c54 => ?_) (fun c54 => ?_)
      · skip
        have c54 := (pk_lLE (by omega) (by omega)).mp c54
        refine lv_lload_n S.1 S.2.1 dX1_valueWith_72 rfl (lv_at hl 2 rfl) ?_
        refine lv_aload_n S.1 S.2.1 dX1_valueWith_73 rfl (lv_at hl 0 rfl) ?_
        refine gfX1_24 S hK hH h0 dX1_valueWith_74 ?_
        refine lv_iload S.1 S.2.1 dX1_valueWith_77 (lv_at hl 4 rfl) ?_
        refine ald_i S hK hH h2 (by omega) (by omega) dX1_valueWith_79 ?_
        refine tpi (x' := iI (cf L k)) (h7 k c34) ?_
        refine lv_i2l (v := lI (cf L k)) S.1 S.2.1 dX1_valueWith_80 (iI_l (by omega)) ?_
        refine lv_ladd S.1 S.2.1 dX1_valueWith_81 ?_
        refine lv_lstore_n (lv' := [(2, .long ((v + lI (cf L k)))), (0, .ref (a)), (1, .int (x)), (4, .long (lN r)), (6, .int (nI k)), (7, .long (lN (cd L k / 10000000000000000)))]) S.1 S.2.1 dX1_valueWith_82 rfl hl (by decide) rfl (fun ls hl => ?_)
        refine lv_iinc (v := nI (k + 1)) (lv' := [(6, .int (nI (k + 1))), (2, .long ((v + lI (cf L k)))), (0, .ref (a)), (1, .int (x)), (4, .long (lN r)), (7, .long (lN (cd L k / 10000000000000000)))]) S.1 S.2.1 dX1_valueWith_83 hl (k := 4) rfl (nI_inc _ 1) (by decide) rfl (fun ls hl => ?_)
        refine lv_goto (tgt := 28) S.1 S.2.1 dX1_valueWith_86 (by decide) ?_
        exact ih28 _ _ _ _ (by omega) ⟨k + 1, _, _, lv_sub hl [2, 3, 1, 4, 0] rfl, ⟨rfl, rfl⟩, c34, hr1, hv.trans (hv_at c34 c54), rfl⟩
      · skip
        have c54 : cd L k / 10000000000000000 < r := Nat.lt_of_not_le (fun q => c54 ((pk_lLE (by omega) (by omega)).mpr q))
        refine lv_lload_n S.1 S.2.1 dX1_valueWith_58 rfl (lv_at hl 2 rfl) ?_
        refine lv_iload_n S.1 S.2.1 dX1_valueWith_59 rfl (lv_at hl 1 rfl) ?_
        refine lv_i2l (v := (x).toInt64) S.1 S.2.1 dX1_valueWith_60 (rfl) ?_
        refine lv_lmul S.1 S.2.1 dX1_valueWith_61 ?_
        refine lv_lstore_n (lv' := [(2, .long ((v * (x).toInt64))), (0, .ref (a)), (1, .int (x)), (4, .long (lN r)), (6, .int (nI k)), (7, .long (lN (cd L k / 10000000000000000)))]) S.1 S.2.1 dX1_valueWith_62 rfl hl (by decide) rfl (fun ls hl => ?_)
        refine lv_lload S.1 S.2.1 dX1_valueWith_63 (lv_at hl 3 rfl) ?_
        refine lv_lconst (v := lI 1) S.1 S.2.1 dX1_valueWith_65 (by decide) ?_
        refine lv_lsub S.1 S.2.1 dX1_valueWith_66 ?_
        refine tpl (x' := lN (r - 1)) (lN_pred (by omega)) ?_
        refine lv_lstore (lv' := [(4, .long (lN (r - 1))), (2, .long ((v * (x).toInt64))), (0, .ref (a)), (1, .int (x)), (6, .int (nI k)), (7, .long (lN (cd L k / 10000000000000000)))]) S.1 S.2.1 dX1_valueWith_67 hl (by decide) rfl (fun ls hl => ?_)
        refine lv_goto (tgt := 50) S.1 S.2.1 dX1_valueWith_69 (by decide) ?_
        exact ih50 _ _ _ _ (by omega) ⟨_, _, lv_sub hl [2, 3, 1, 0, 4, 5] rfl, ⟨rfl, rfl⟩, by omega, hv.trans (hv_dn c34 c54), rfl⟩

set_option maxHeartbeats 4000000 in
set_option maxRecDepth 100000 in
theorem kX1_findTops {l : Launch} {G : Gx} {B : Nat} {w : Wm} {n : Nat} (a cap : Nat) (L : PL) (tk : Int32) (tp : Nat → Int32) (hp : PolyC G w a cap L tk tp) (htk : tk = 1 → ∀ t, t < 16 → tp t = nI (top L t)) (hok : ∀ j, j < L.length → cd L j < 4611686018427387904) : Met l yX1_findTops (wsM yX1_findTops cX1_findTops 5 none) ({ frames := 1, cells := 0, slots := 0, locals := 21 } : Room) (Pcx G B w n [.ref (a)]) (Qv G B (fun w' n' => n' = n ∧ (∀ b, (b ≠ a ∧ b ≠ a + 3) → w' b = w b) ∧ ∃ tp', PolyC G w' a cap L 1 tp' ∧ ∀ t, t < 16 → tp' t = nI (top L t))) 0 0 (FA B) := by
  refine en (by decide) (Nat.le_of_ble_eq_true rfl) ?_
  intro p ev s mm ag bl mt co S hr hlk hnm hK H hH ls hl
  have hl : lv_has ls 5 [(0, .ref (a))] := hl
  obtain ⟨f, g, h0, h1, h2, h3, h4, h5, h6, h7, h8⟩ := hp
  have hF : ∀ b, b ≠ a ∧ b ≠ a + 3 → w b = w b := fun _ _ => rfl
  refine lv_aload_n S.1 S.2.1 dX1_findTops_0 rfl (lv_at hl 0 rfl) ?_
  refine gfX1_35 S hK hH h0 dX1_findTops_1 ?_
  refine lv_if_eq (tgt := 8) S.1 S.2.1 dX1_findTops_4 (by decide) (fun c4 => ?_) (fun c4 => ?_)
  · skip
    refine lv_iconst (v := nI 0) S.1 S.2.1 dX1_findTops_8 (by decide) ?_
    refine lv_istore_n (lv' := [(1, .int (nI 0)), (0, .ref (a))]) S.1 S.2.1 dX1_findTops_9 rfl hl (by decide) rfl (fun ls hl => ?_)
    refine wlp (P := fun k_ ls H' locs' => ∃ (i : Nat) (tq : Nat → Int32) (v : Wm), lv_has ls 5 [(0, .ref (a)), (1, .int (nI i))] ∧ HS G B v (n) s H' locs' ∧ v (a) = some (eO 1 [.ref (a + 1), .ref (a + 2), .int (nI L.length), .ref (a + 3), .int (tk)]) ∧ v (a + 1) = some (eJ G (cap) (f)) ∧ v (a + 2) = some (eI G (cap) (g)) ∧ v (a + 3) = some (eI G (16) (tq)) ∧ (∀ b, b ≠ a ∧ b ≠ a + 3 → v b = w b) ∧ (i ≤ 16) ∧ (∀ t, t < i → tq t = nI 0) ∧ k_ = 16 - i) ?_ (k0 := 16 - (0)) ⟨0, tp, w, lv_sub hl [1, 0] rfl, hH, h0, h1, h2, h3, hF, by omega, fun t h => absurd h (Nat.not_lt_zero t), rfl⟩
    intro k10 ls H locs hP ih10
    obtain ⟨i, tq, v, hl, hH, h0, h1, h2, h3, hF, hi, hz, hk10⟩ := hP
    refine lv_iload_n S.1 S.2.1 dX1_findTops_10 rfl (lv_at hl 1 rfl) ?_
    refine lv_bipush (v := nI 16) S.1 S.2.1 dX1_findTops_11 (by decide) ?_
    refine bn_ge (tgt := 29) S dX1_findTops_13 (by decide) (by omega) (fun c13 => ?_) (fun c13 => ?_)
    · skip
      refine lv_iconst (v := nI 0) S.1 S.2.1 dX1_findTops_29 (by decide) ?_
      refine lv_istore_n (lv' := [(1, .int (nI 0)), (0, .ref (a))]) S.1 S.2.1 dX1_findTops_30 rfl hl (by decide) rfl (fun ls hl => ?_)
      refine wlp (P := fun k_ ls H' locs' => ∃ (k : Nat) (tq : Nat → Int32) (v : Wm), lv_has ls 5 [(0, .ref (a)), (1, .int (nI k))] ∧ HS G B v (n) s H' locs' ∧ v (a) = some (eO 1 [.ref (a + 1), .ref (a + 2), .int (nI L.length), .ref (a + 3), .int (tk)]) ∧ v (a + 1) = some (eJ G (cap) (f)) ∧ v (a + 2) = some (eI G (cap) (g)) ∧ v (a + 3) = some (eI G (16) (tq)) ∧ (∀ b, b ≠ a ∧ b ≠ a + 3 → v b = w b) ∧ (k ≤ L.length) ∧ (∀ t, t < 16 → tq t = nI (top (L.take k) t)) ∧ k_ = L.length - k) ?_ (k0 := L.length - (0)) ⟨0, tq, v, lv_sub hl [1, 0] rfl, hH, h0, h1, h2, h3, hF, Nat.zero_le _, fun t h => by rw [hz t (by omega)]; rfl, rfl⟩
      intro k31 ls H locs hP ih31
      obtain ⟨k, tq, v, hl, hH, h0, h1, h2, h3, hF, hk, hz, hk31⟩ := hP
      refine lv_iload_n S.1 S.2.1 dX1_findTops_31 rfl (lv_at hl 1 rfl) ?_
      refine lv_aload_n S.1 S.2.1 dX1_findTops_32 rfl (lv_at hl 0 rfl) ?_
      refine gfX1_28 S hK hH h0 dX1_findTops_33 ?_
      refine bn_ge (tgt := 96) S dX1_findTops_36 (by decide) (by omega) (fun c36 => ?_) (fun c36 => ?_)
      · skip
        refine lv_aload_n S.1 S.2.1 dX1_findTops_96 rfl (lv_at hl 0 rfl) ?_
        refine lv_iconst (v := nI 1) S.1 S.2.1 dX1_findTops_97 (by decide) ?_
        refine pfX1_35 S hK hH h0 (by decide) dX1_findTops_98 (fun w1 H locs h0 fr hH => ?_)
        replace h1 := (fr (a + 1) (by omega)).trans h1
        replace h2 := (fr (a + 2) (by omega)).trans h2
        replace h3 := (fr (a + 3) (by omega)).trans h3
        replace hF : ∀ b, b ≠ a ∧ b ≠ a + 3 → w1 b = w b := fun b hb => (fr b (by omega)).trans (hF b hb)
        exact rt_v S hr hlk hH dX1_findTops_101 (⟨rfl, hF, tq, ⟨f, g, h0, h1, h2, h3, h4, h5, h6, h7, Or.inr rfl⟩, fun t h => by rw [hz t h, List.take_of_length_le c36]⟩)
      · skip
        refine lv_aload_n S.1 S.2.1 dX1_findTops_39 rfl (lv_at hl 0 rfl) ?_
        refine gfX1_18 S hK hH h0 dX1_findTops_40 ?_
        refine lv_iload_n S.1 S.2.1 dX1_findTops_43 rfl (lv_at hl 1 rfl) ?_
        refine ald_l S hK hH h1 (by omega) (by omega) dX1_findTops_44 ?_
        refine tpl (x' := lN (cd L k)) (h6 k c36) ?_
        have hb := hok k c36
        refine tpl (x' := lN (cd L k / 10 ^ 0)) (by simp) ?_
        refine lv_lstore_n (lv' := [(2, .long (lN (cd L k / 10 ^ 0))), (0, .ref (a)), (1, .int (nI k))]) S.1 S.2.1 dX1_findTops_45 rfl hl (by decide) rfl (fun ls hl => ?_)
        refine lv_bipush (v := nI 15) S.1 S.2.1 dX1_findTops_46 (by decide) ?_
        refine tpi (x' := iI (15 - ((0 : Nat) : Int))) (rfl) ?_
        refine lv_istore (lv' := [(4, .int (iI (15 - ((0 : Nat) : Int)))), (2, .long (lN (cd L k / 10 ^ 0))), (0, .ref (a)), (1, .int (nI k))]) S.1 S.2.1 dX1_findTops_48 hl (by decide) rfl (fun ls hl => ?_)
        refine wlp (P := fun k_ ls H' locs' => ∃ (t : Nat) (tq : Nat → Int32) (v : Wm), lv_has ls 5 [(0, .ref (a)), (1, .int (nI k)), (2, .long (lN (cd L k / 10 ^ t))), (4, .int (iI (15 - (t : Int))))] ∧ HS G B v (n) s H' locs' ∧ v (a) = some (eO 1 [.ref (a + 1), .ref (a + 2), .int (nI L.length), .ref (a + 3), .int (tk)]) ∧ v (a + 1) = some (eJ G (cap) (f)) ∧ v (a + 2) = some (eI G (cap) (g)) ∧ v (a + 3) = some (eI G (16) (tq)) ∧ (∀ b, b ≠ a ∧ b ≠ a + 3 → v b = w b) ∧ (t ≤ 16) ∧ (∀ u, u < 16 → u < 16 - t → tq u = nI (top (L.take k) u)) ∧ (∀ u, 16 - t ≤ u → u < 16 → tq u = nI (top (L.take (k + 1)) u)) ∧ k_ = 16 - t) ?_ (k0 := 16 - (0)) ⟨0, tq, v, lv_sub hl [2, 3, 1, 0] rfl, hH, h0, h1, h2, h3, hF, by omega, fun u h _ => hz u h, fun u h1 h2 => by omega, rfl⟩
        intro k50 ls H locs hP ih50
        obtain ⟨t, tq, v, hl, hH, h0, h1, h2, h3, hF, ht1, hi1, hi2, hk50⟩ := hP
        refine lv_iload S.1 S.2.1 dX1_findTops_50 (lv_at hl 3 rfl) ?_
        refine lv_if_lt (tgt := 90) S.1 S.2.1 dX1_findTops_52 (by decide) (fun c52 => ?_) (fun c52 => ?_)
        · skip
          have ht : t = 16 := by
            have := (iI_lt (b := 0) (by omega) (by omega)).mp c52
            omega
          refine lv_iinc (v := nI (k + 1)) (lv' := [(1, .int (nI (k + 1))), (0, .ref (a)), (2, .long (lN (cd L k / 10 ^ t))), (4, .int (iI (15 - (t : Int))))]) S.1 S.2.1 dX1_findTops_90 hl (k := 1) rfl (nI_inc _ 1) (by decide) rfl (fun ls hl => ?_)
          refine lv_goto (tgt := 31) S.1 S.2.1 dX1_findTops_93 (by decide) ?_
          exact ih31 _ _ _ _ (by omega) ⟨k + 1, _, v, lv_sub hl [1, 0] rfl, hH, h0, h1, h2, h3, hF, c36, fun t h => hi2 t (by omega) h, rfl⟩
        · skip
          have ht : t < 16 := by
            rcases Nat.lt_or_ge t 16 with q | q
            · exact q
            · exact absurd ((iI_lt (b := 0) (by omega) (by omega)).mpr (by omega)) c52
          refine lv_aload_n S.1 S.2.1 dX1_findTops_55 rfl (lv_at hl 0 rfl) ?_
          refine gfX1_32 S hK hH h0 dX1_findTops_56 ?_
          refine lv_iload S.1 S.2.1 dX1_findTops_59 (lv_at hl 3 rfl) ?_
          refine tpi (x' := nI (15 - t)) (iI_dn ht) ?_
          refine lv_aload_n S.1 S.2.1 dX1_findTops_61 rfl (lv_at hl 0 rfl) ?_
          refine gfX1_32 S hK hH h0 dX1_findTops_62 ?_
          refine lv_iload S.1 S.2.1 dX1_findTops_65 (lv_at hl 3 rfl) ?_
          refine tpi (x' := nI (15 - t)) (iI_dn ht) ?_
          refine ald_i S hK hH h3 (by omega) (by omega) dX1_findTops_67 ?_
          refine tpi (x' := nI (top (L.take k) (15 - t))) (hi1 (15 - t) (by omega) (by omega)) ?_
          refine lv_lload_n S.1 S.2.1 dX1_findTops_68 rfl (lv_at hl 2 rfl) ?_
          refine lv_ldc2 S.1 S.2.1 S.2.2.2.1 (S.2.2.2.2 _ mW184) dX1_findTops_69 ?_
          refine tpl (x' := lI 10) (by decide) ?_
          refine lv_lrem S.1 S.2.1 dX1_findTops_72 (by decide) ?_
          refine tpl (x' := lN (cd L k / 10 ^ t % 10)) (rem10 hb) ?_
          refine lv_l2i (v := nI (cd L k / 10 ^ t % 10)) S.1 S.2.1 dX1_findTops_73 (lN_i _) ?_
          refine va_mmax S.1 S.2.1 (S.2.2.1.trans hl.1.symm) S.2.2.2.1 (S.2.2.2.2 _ mW23) (S.2.2.2.2 _ mW24) (S.2.2.2.2 _ mW3) (S.2.2.2.2 _ mW25) (by decide) (by simp [Value.category]) (show 0 ≤ 0 by omega) (show 0 ≤ 0 by omega) dX1_findTops_74 ?_
          refine tpi (x' := nI (max (top (L.take k) (15 - t)) (cd L k / 10 ^ t % 10))) (mx_nI (top_lt _ _) (by omega)) ?_
          refine ast_i S hK hH h3 (by omega) (by omega) dX1_findTops_77 (fun w2 H locs h3 fr hH => ?_)
          replace h0 := (fr (a) (by omega)).trans h0
          replace h1 := (fr (a + 1) (by omega)).trans h1
          replace h2 := (fr (a + 2) (by omega)).trans h2
          replace hF : ∀ b, b ≠ a ∧ b ≠ a + 3 → w2 b = w b := fun b hb => (fr b (by omega)).trans (hF b hb)
          refine lv_lload_n S.1 S.2.1 dX1_findTops_78 rfl (lv_at hl 2 rfl) ?_
          refine lv_ldc2 S.1 S.2.1 S.2.2.2.1 (S.2.2.2.2 _ mW184) dX1_findTops_79 ?_
          refine tpl (x' := lI 10) (by decide) ?_
          refine lv_ldiv S.1 S.2.1 dX1_findTops_82 (by decide) ?_
          refine tpl (x' := lN (cd L k / 10 ^ (t + 1))) (div10b hb) ?_
          refine lv_lstore_n (lv' := [(2, .long (lN (cd L k / 10 ^ (t + 1)))), (0, .ref (a)), (1, .int (nI k)), (4, .int (iI (15 - (t : Int))))]) S.1 S.2.1 dX1_findTops_83 rfl hl (by decide) rfl (fun ls hl => ?_)
          refine lv_iinc (v := iI (15 - ((t + 1 : Nat) : Int))) (lv' := [(4, .int (iI (15 - ((t + 1 : Nat) : Int)))), (2, .long (lN (cd L k / 10 ^ (t + 1)))), (0, .ref (a)), (1, .int (nI k))]) S.1 S.2.1 dX1_findTops_84 hl (k := 3) rfl (iI_dec t) (by decide) rfl (fun ls hl => ?_)
          refine lv_goto (tgt := 50) S.1 S.2.1 dX1_findTops_87 (by decide) ?_
          exact ih50 _ _ _ _ (by omega) ⟨t + 1, _, w2, lv_sub hl [2, 3, 1, 0] rfl, hH, h0, h1, h2, h3, hF, by omega, fun u h1 h2 => by rw [pk_un (by omega)]; exact hi1 u h1 (by omega), fun u h1 h2 => tp_set c36 ht hi2 u h1 h2, rfl⟩
    · skip
      refine lv_aload_n S.1 S.2.1 dX1_findTops_16 rfl (lv_at hl 0 rfl) ?_
      refine gfX1_32 S hK hH h0 dX1_findTops_17 ?_
      refine lv_iload_n S.1 S.2.1 dX1_findTops_20 rfl (lv_at hl 1 rfl) ?_
      refine lv_iconst (v := nI 0) S.1 S.2.1 dX1_findTops_21 (by decide) ?_
      refine ast_i S hK hH h3 (by omega) (by omega) dX1_findTops_22 (fun w3 H locs h3 fr hH => ?_)
      replace h0 := (fr (a) (by omega)).trans h0
      replace h1 := (fr (a + 1) (by omega)).trans h1
      replace h2 := (fr (a + 2) (by omega)).trans h2
      replace hF : ∀ b, b ≠ a ∧ b ≠ a + 3 → w3 b = w b := fun b hb => (fr b (by omega)).trans (hF b hb)
      refine lv_iinc (v := nI (i + 1)) (lv' := [(1, .int (nI (i + 1))), (0, .ref (a))]) S.1 S.2.1 dX1_findTops_23 hl (k := 1) rfl (nI_inc _ 1) (by decide) rfl (fun ls hl => ?_)
      refine lv_goto (tgt := 10) S.1 S.2.1 dX1_findTops_26 (by decide) ?_
      exact ih10 _ _ _ _ (by omega) ⟨i + 1, _, w3, lv_sub hl [1, 0] rfl, hH, h0, h1, h2, h3, hF, c13, lt_s (fun t h => by rw [pk_un (by omega)]; exact hz t h) pk_us, rfl⟩
  · skip
    have htk1 : tk = 1 := h8.resolve_left c4
    exact rt_v S hr hlk hH dX1_findTops_7 (⟨rfl, hF, tp, ⟨f, g, by rw [← htk1]; exact h0, h1, h2, h3, h4, h5, h6, h7, Or.inr rfl⟩, htk htk1⟩)

