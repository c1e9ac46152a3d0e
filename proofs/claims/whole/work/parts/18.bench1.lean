/-- what a kept term is -/
def okL (L : PL) : Prop := ∀ j, j < L.length → cd L j < 4611686018427387904 ∧ cf L j ≠ 0 ∧ -99999999 ≤ cf L j ∧ cf L j ≤ 99999999
theorem okL.B {L : PL} (h : okL L) : ∀ j, j < L.length → cd L j < 4611686018427387904 ∧ -2147483648 ≤ cf L j ∧ cf L j < 2147483648 := fun j hj => by
  have := h j hj
  omega
theorem PolyC.len {G : Gx} {w : Wm} {a cap : Nat} {L : PL} {tk : Int32} {tp : Nat → Int32} (h : PolyC G w a cap L tk tp) : L.length ≤ 60 := by
  obtain ⟨f, g, h0, h1, h2, h3, h4, h5, -⟩ := h
  omega
/-- the greatest code that the first rows have yet to give -/
def gC (X Y : PL) (me : Nat → Nat) : Nat → Int
  | 0 => -1
  | i + 1 => if me i < Y.length then max (gC X Y me i) ((cd X i + cd Y (me i) : Nat) : Int) else gC X Y me i
def gK (X Y : PL) (me : Nat → Nat) (c : Nat) : Nat → Int
  | 0 => 0
  | i + 1 => if me i < Y.length ∧ cd X i + cd Y (me i) = c then gK X Y me c i + cf X i * cf Y (me i) else gK X Y me c i
def gM (X Y : PL) (me : Nat → Nat) (c bg : Nat) : Nat → Nat := fun u => if u < bg ∧ me u < Y.length ∧ cd X u + cd Y (me u) = c then me u + 1 else me u
def mrg (X Y : PL) : Nat → PL → (Nat → Nat) → Nat → Option PL
  | 0, acc, _, _ => some acc
  | f + 1, acc, me, bg => if gC X Y me bg < 0 then some acc else (app 60 acc (gC X Y me bg).toNat (gK X Y me (gC X Y me bg).toNat bg)).bind (fun a => mrg X Y f a (gM X Y me (gC X Y me bg).toNat bg) (if bg < X.length ∧ 0 < gM X Y me (gC X Y me bg).toNat bg (bg - 1) then bg + 1 else bg))
section GC
variable {X Y : PL} {me : Nat → Nat} {i c bg : Nat}
theorem gC_miss (h : Y.length ≤ me i) : gC X Y me (i + 1) = gC X Y me i := by rw [gC, if_neg (by omega)]
theorem gC_b (okx : okL X) (oky : okL Y) (me : Nat → Nat) (i : Nat) (hi : i ≤ X.length) : -1 ≤ gC X Y me i ∧ gC X Y me i < 9223372036854775807 := by
  induction i with
  | zero => simp [gC]
  | succ i ih =>
    have := ih (by omega)
    rw [gC]
    split
    · rename_i h
      have h1 := okx i (by omega)
      have h2 := oky _ h
      omega
    · exact this
theorem gC_hit (h : me i < Y.length) (hb : -1 ≤ gC X Y me i ∧ gC X Y me i < 9223372036854775807) (h2 : cd X i + cd Y (me i) < 9223372036854775808) : (if lN (cd X i + cd Y (me i)) < lI (gC X Y me i) then lI (gC X Y me i) else lN (cd X i + cd Y (me i))) = lI (gC X Y me (i + 1)) := by
  rw [gC, if_pos h, lN_lI]
  by_cases q : ((cd X i + cd Y (me i) : Nat) : Int) < gC X Y me i
  · rw [if_pos ((lI_lt (by omega) (by omega)).mpr q), Int.max_eq_left (by omega)]
  · rw [if_neg (fun r => q ((lI_lt (by omega) (by omega)).mp r)), Int.max_eq_right (by omega)]
theorem gK_miss (h : ¬ (me i < Y.length ∧ cd X i + cd Y (me i) = c)) : gK X Y me c (i + 1) = gK X Y me c i := by rw [gK, if_neg h]
theorem gK_hit (h : me i < Y.length ∧ cd X i + cd Y (me i) = c) : gK X Y me c (i + 1) = gK X Y me c i + cf X i * cf Y (me i) := by rw [gK, if_pos h]
theorem gM_at : gM X Y me c i i = me i := by simp [gM]
theorem gM_0 {u : Nat} : gM X Y me c 0 u = me u := by simp [gM]
theorem gM_miss {u : Nat} (h : ¬ (me i < Y.length ∧ cd X i + cd Y (me i) = c)) : gM X Y me c (i + 1) u = gM X Y me c i u := by
  unfold gM
  by_cases q : u = i
  · subst q
    rw [if_neg (fun r => h r.2), if_neg (fun r => h r.2)]
  · by_cases r : u < i
    · simp [r, Nat.lt_succ_of_lt r]
    · rw [if_neg (by omega), if_neg (by omega)]
theorem gM_hit {mg : Nat → Int32} (hm : ∀ u, u < X.length → mg u = nI (gM X Y me c i u)) (h : me i < Y.length ∧ cd X i + cd Y (me i) = c) : ∀ u, u < X.length → upd mg i (nI (me i + 1)) u = nI (gM X Y me c (i + 1) u) := by
  intro u hu
  by_cases q : u = i
  · subst q
    rw [pk_us]
    unfold gM
    rw [if_pos ⟨Nat.lt_succ_self _, h⟩]
  · rw [pk_un q, hm u hu]
    unfold gM
    by_cases r : u < i
    · simp [r, Nat.lt_succ_of_lt r]
    · rw [if_neg (by omega), if_neg (by omega)]
theorem pr_b {a b : Int} (ha : -99999999 ≤ a ∧ a ≤ 99999999) (hb : -99999999 ≤ b ∧ b ≤ 99999999) : -10000000000000000 ≤ a * b ∧ a * b ≤ 10000000000000000 := by
  have h : (a * b).natAbs ≤ 99999999 * 99999999 := by
    rw [Int.natAbs_mul]
    exact Nat.mul_le_mul (by omega) (by omega)
  omega
theorem gK_b0 (okx : okL X) (oky : okL Y) (me : Nat → Nat) (c : Nat) : ∀ i, i ≤ X.length → -(10000000000000000 * (i : Int)) ≤ gK X Y me c i ∧ gK X Y me c i ≤ 10000000000000000 * (i : Int) := by
  intro i
  induction i with
  | zero => intro _; simp [gK]
  | succ i ih =>
    intro hi
    have h0 := ih (by omega)
    rw [gK]
    split
    · rename_i h
      have h1 := okx i (by omega)
      have h2 := oky _ h.1
      have h3 := pr_b ⟨h1.2.2.1, h1.2.2.2⟩ ⟨h2.2.2.1, h2.2.2.2⟩
      omega
    · omega
theorem gK_b (okx : okL X) (oky : okL Y) (me : Nat → Nat) (c : Nat) (h : i ≤ X.length ∧ i ≤ 60) : -4611686018427387904 ≤ gK X Y me c i ∧ gK X Y me c i < 4611686018427387904 := by
  have := gK_b0 okx oky me c i h.1
  omega
theorem me_up (hly : Y.length ≤ 60) (h : ∀ i, i < X.length → me i ≤ Y.length) : ∀ i, i < X.length → gM X Y me c bg i ≤ Y.length ∧ gM X Y me c bg i ≤ 60 := by
  intro i hi
  have := h i hi
  unfold gM
  split <;> omega
theorem mrg_miss {u N : Nat} {acc L' : PL} (hu : u < N) (hg : 0 ≤ gC X Y me bg) (ha : app 60 acc (gC X Y me bg).toNat (gK X Y me (gC X Y me bg).toNat bg) = some L') (hb : ¬ (bg < X.length ∧ 0 < gM X Y me (gC X Y me bg).toNat bg (bg - 1))) : mrg X Y (N - u) acc me bg = mrg X Y (N - (u + 1)) L' (gM X Y me (gC X Y me bg).toNat bg) bg := by
  rw [show N - u = (N - (u + 1)) + 1 by omega, mrg, if_neg (by omega), ha, if_neg hb]; rfl
theorem mrg_hit {u N : Nat} {acc L' : PL} (hu : u < N) (hg : 0 ≤ gC X Y me bg) (ha : app 60 acc (gC X Y me bg).toNat (gK X Y me (gC X Y me bg).toNat bg) = some L') (hb : bg < X.length ∧ 0 < gM X Y me (gC X Y me bg).toNat bg (bg - 1)) : mrg X Y (N - u) acc me bg = mrg X Y (N - (u + 1)) L' (gM X Y me (gC X Y me bg).toNat bg) (bg + 1) := by
  rw [show N - u = (N - (u + 1)) + 1 by omega, mrg, if_neg (by omega), ha, if_pos hb]; rfl
theorem mrg_none {u N : Nat} {acc : PL} (hu : u < N) (hg : 0 ≤ gC X Y me bg) (ha : app 60 acc (gC X Y me bg).toNat (gK X Y me (gC X Y me bg).toNat bg) = none) : mrg X Y (N - u) acc me bg = none := by
  rw [show N - u = (N - (u + 1)) + 1 by omega, mrg, if_neg (by omega), ha]; rfl
theorem mrg_end {f : Nat} {acc : PL} (hg : gC X Y me bg < 0) : mrg X Y f acc me bg = some acc := by
  cases f with
  | zero => rfl
  | succ f => rw [mrg, if_pos hg]
end GC

set_option maxHeartbeats 4000000 in
set_option maxRecDepth 100000 in
theorem kX0_greatestCode {l : Launch} {G : Gx} {B : Nat} {w : Wm} {n : Nat} (q m x y cx cy : Nat) (X Y : PL) (kx ky : Int32) (px py : Nat → Int32) (v0 v1 v2 : Value) (bg : Nat) (me : Nat → Nat) (mf : Nat → Int32) (hq : w q = some (eO 0 [v0, v1, v2, .ref m, .int (nI bg)])) (hm : w m = some (eI G 60 mf)) (hx : PolyC G w x cx X kx px) (hy : PolyC G w y cy Y ky py) (okx : okL X) (oky : okL Y) (hbg : bg ≤ X.length) (hme : ∀ i, i < X.length → mf i = nI (me i) ∧ me i ≤ 60) : Met l yX0_greatestCode (wsM yX0_greatestCode cX0_greatestCode 6 (some .long)) ({ frames := 1, cells := 0, slots := 0, locals := 23 } : Room) (Pcx G B w n [.ref (q), .ref (x), .ref (y)]) (Ql G B (fun r w' n' => w' = w ∧ n' = n ∧ r = lI (gC X Y me bg))) 0 0 (FA B) := by
  refine en (by decide) (Nat.le_of_ble_eq_true rfl) ?_
  intro p ev s mm ag bl mt co S hr hlk hnm hK H hH ls hl
  have hl : lv_has ls 6 [(0, .ref (q)), (1, .ref (x)), (2, .ref (y))] := hl
  obtain ⟨fx, gx, hx0, hxa, hxb, hx3, hx4, hx5, hx6, hx7, hx8⟩ := hx
  obtain ⟨fy, gy, hy0, hya, hyb, hy3, hy4, hy5, hy6, hy7, hy8⟩ := hy
  refine lv_ldc2 S.1 S.2.1 S.2.2.2.1 (S.2.2.2.2 _ mW193) dX0_greatestCode_0 ?_
  refine tpl (x' := lI (-1)) (by decide) ?_
  refine tpl (x' := lI (gC X Y me 0)) (rfl) ?_
  refine lv_lstore_n (lv' := [(3, .long (lI (gC X Y me 0))), (0, .ref (q)), (1, .ref (x)), (2, .ref (y))]) S.1 S.2.1 dX0_greatestCode_3 rfl hl (by decide) rfl (fun ls hl => ?_)
  refine lv_iconst (v := nI 0) S.1 S.2.1 dX0_greatestCode_4 (by decide) ?_
  refine lv_istore (lv' := [(5, .int (nI 0)), (3, .long (lI (gC X Y me 0))), (0, .ref (q)), (1, .ref (x)), (2, .ref (y))]) S.1 S.2.1 dX0_greatestCode_5 hl (by decide) rfl (fun ls hl => ?_)
  refine wlp (P := fun k_ ls H' locs' => ∃ (i : Nat), lv_has ls 6 [(0, .ref (q)), (1, .ref (x)), (2, .ref (y)), (3, .long (lI (gC X Y me i))), (5, .int (nI i))] ∧ (H = H' ∧ [] = locs') ∧ (i ≤ bg) ∧ k_ = bg - i) ?_ (k0 := bg - (0)) ⟨0, lv_sub hl [2, 3, 4, 1, 0] rfl, ⟨rfl, rfl⟩, by omega, rfl⟩
  intro k7 ls H' locs' hP ih7
  obtain ⟨i, hl, ⟨rfl, rfl⟩, hi, hk7⟩ := hP
  refine lv_iload S.1 S.2.1 dX0_greatestCode_7 (lv_at hl 4 rfl) ?_
  refine lv_aload_n S.1 S.2.1 dX0_greatestCode_9 rfl (lv_at hl 0 rfl) ?_
  refine gfX0_30 S hK hH hq dX0_greatestCode_10 ?_
  refine bn_ge (tgt := 61) S dX0_greatestCode_13 (by decide) (by omega) (fun c13 => ?_) (fun c13 => ?_)
  · skip
    refine lv_lload_n S.1 S.2.1 dX0_greatestCode_61 rfl (lv_at hl 3 rfl) ?_
    exact rt_l S hr hlk hH dX0_greatestCode_62 (⟨rfl, rfl, by rw [show i = bg by omega]⟩)
  · skip
    have hmi := hme i (by omega)
    have hbx := okx i (by omega)
    refine lv_aload_n S.1 S.2.1 dX0_greatestCode_16 rfl (lv_at hl 0 rfl) ?_
    refine gfX0_26 S hK hH hq dX0_greatestCode_17 ?_
    refine lv_iload S.1 S.2.1 dX0_greatestCode_20 (lv_at hl 4 rfl) ?_
    refine ald_i S hK hH hm (by omega) (by omega) dX0_greatestCode_22 ?_
    refine tpi (x' := nI (me i)) (hmi.1) ?_
    refine lv_aload_n S.1 S.2.1 dX0_greatestCode_23 rfl (lv_at hl 2 rfl) ?_
    refine gfX0_49 S hK hH hy0 dX0_greatestCode_24 ?_
    refine bn_ge (tgt := 55) S dX0_greatestCode_27 (by decide) (by omega) (fun c27 => ?_) (fun c27 => ?_)
    · skip
      rw [← gC_miss (X := X) c27] at hl
      refine lv_iinc (v := nI (i + 1)) (lv' := [(5, .int (nI (i + 1))), (0, .ref (q)), (1, .ref (x)), (2, .ref (y)), (3, .long (lI (gC X Y me (i + 1))))]) S.1 S.2.1 dX0_greatestCode_55 hl (k := 4) rfl (nI_inc _ 1) (by decide) rfl (fun ls hl => ?_)
      refine lv_goto (tgt := 7) S.1 S.2.1 dX0_greatestCode_58 (by decide) ?_
      exact ih7 _ _ _ _ (by omega) ⟨i + 1, lv_sub hl [1, 2, 3, 4, 0] rfl, ⟨rfl, rfl⟩, by omega, rfl⟩
    · skip
      have hby := oky (me i) c27
      refine lv_lload_n S.1 S.2.1 dX0_greatestCode_30 rfl (lv_at hl 3 rfl) ?_
      refine lv_aload_n S.1 S.2.1 dX0_greatestCode_31 rfl (lv_at hl 1 rfl) ?_
      refine gfX0_69 S hK hH hx0 dX0_greatestCode_32 ?_
      refine lv_iload S.1 S.2.1 dX0_greatestCode_35 (lv_at hl 4 rfl) ?_
      refine ald_l S hK hH hxa (by omega) (by omega) dX0_greatestCode_37 ?_
      refine tpl (x' := lN (cd X i)) (hx6 i (by omega)) ?_
      refine lv_aload_n S.1 S.2.1 dX0_greatestCode_38 rfl (lv_at hl 2 rfl) ?_
      refine gfX0_69 S hK hH hy0 dX0_greatestCode_39 ?_
      refine lv_aload_n S.1 S.2.1 dX0_greatestCode_42 rfl (lv_at hl 0 rfl) ?_
      refine gfX0_26 S hK hH hq dX0_greatestCode_43 ?_
      refine lv_iload S.1 S.2.1 dX0_greatestCode_46 (lv_at hl 4 rfl) ?_
      refine ald_i S hK hH hm (by omega) (by omega) dX0_greatestCode_48 ?_
      refine tpi (x' := nI (me i)) (hmi.1) ?_
      refine ald_l S hK hH hya (by omega) (by omega) dX0_greatestCode_49 ?_
      refine tpl (x' := lN (cd Y (me i))) (hy6 _ c27) ?_
      refine lv_ladd S.1 S.2.1 dX0_greatestCode_50 ?_
      refine tpl (x' := lN (cd X i + cd Y (me i))) (lN_add _ _) ?_
      refine va_mmax_long S.1 S.2.1 (S.2.2.1.trans hl.1.symm) S.2.2.2.1 (S.2.2.2.2 _ mW194) (S.2.2.2.2 _ mW195) (S.2.2.2.2 _ mW3) (S.2.2.2.2 _ mW196) (by decide) (by simp [Value.category]) (show 0 ≤ 0 by omega) (show 0 ≤ 0 by omega) dX0_greatestCode_51 ?_
      refine tpl (x' := lI (gC X Y me (i + 1))) (gC_hit c27 (gC_b okx oky me i (by omega)) (by omega)) ?_
      refine lv_lstore_n (lv' := [(3, .long (lI (gC X Y me (i + 1)))), (0, .ref (q)), (1, .ref (x)), (2, .ref (y)), (5, .int (nI i))]) S.1 S.2.1 dX0_greatestCode_54 rfl hl (by decide) rfl (fun ls hl => ?_)
      refine lv_iinc (v := nI (i + 1)) (lv' := [(5, .int (nI (i + 1))), (3, .long (lI (gC X Y me (i + 1)))), (0, .ref (q)), (1, .ref (x)), (2, .ref (y))]) S.1 S.2.1 dX0_greatestCode_55 hl (k := 4) rfl (nI_inc _ 1) (by decide) rfl (fun ls hl => ?_)
      refine lv_goto (tgt := 7) S.1 S.2.1 dX0_greatestCode_58 (by decide) ?_
      exact ih7 _ _ _ _ (by omega) ⟨i + 1, lv_sub hl [2, 3, 4, 1, 0] rfl, ⟨rfl, rfl⟩, by omega, rfl⟩

set_option maxHeartbeats 4000000 in
set_option maxRecDepth 100000 in
theorem kX0_gather {l : Launch} {G : Gx} {B : Nat} {w : Wm} {n : Nat} (q m x y cx cy : Nat) (X Y : PL) (kx ky : Int32) (px py : Nat → Int32) (v0 v1 v2 : Value) (bg : Nat) (me : Nat → Nat) (mf : Nat → Int32) (c : Nat) (hq : w q = some (eO 0 [v0, v1, v2, .ref m, .int (nI bg)])) (hm : w m = some (eI G 60 mf)) (hx : PolyC G w x cx X kx px) (hy : PolyC G w y cy Y ky py) (okx : okL X) (oky : okL Y) (hbg : bg ≤ X.length) (hme : ∀ i, i < X.length → mf i = nI (me i) ∧ me i ≤ 60) (hmq : m ≠ q) (hmx : m < x ∨ x + 4 ≤ m) (hmy : m < y ∨ y + 4 ≤ m) (hc : c < 9223372036854775808) : Met l yX0_gather (wsM yX0_gather cX0_gather 9 (some .long)) ({ frames := 0, cells := 0, slots := 0, locals := 0 } : Room) (Pcx G B w n [.ref (q), .long (lN c), .ref (x), .ref (y)]) (Ql G B (fun r w' n' => n' = n ∧ (∀ b, b ≠ m → w' b = w b) ∧ r = lI (gK X Y me c bg) ∧ ∃ mf', w' m = some (eI G 60 mf') ∧ ∀ i, i < X.length → mf' i = nI (gM X Y me c bg i))) 0 0 (FA B) := by
  refine en (by decide) (Nat.le_of_ble_eq_true rfl) ?_
  intro p ev s mm ag bl mt co S hr hlk hnm hK H hH ls hl
  have hl : lv_has ls 9 [(0, .ref (q)), (1, .long (lN c)), (3, .ref (x)), (4, .ref (y))] := hl
  obtain ⟨fx, gx, hx0, hxa, hxb, hx3, hx4, hx5, hx6, hx7, hx8⟩ := hx
  obtain ⟨fy, gy, hy0, hya, hyb, hy3, hy4, hy5, hy6, hy7, hy8⟩ := hy
  have hF : ∀ b, b ≠ m → w b = w b := fun _ _ => rfl
  refine lv_lconst (v := lI 0) S.1 S.2.1 dX0_gather_0 (by decide) ?_
  refine tpl (x' := lI (gK X Y me c 0)) (rfl) ?_
  refine lv_lstore (lv' := [(5, .long (lI (gK X Y me c 0))), (0, .ref (q)), (1, .long (lN c)), (3, .ref (x)), (4, .ref (y))]) S.1 S.2.1 dX0_gather_1 hl (by decide) rfl (fun ls hl => ?_)
  refine lv_iconst (v := nI 0) S.1 S.2.1 dX0_gather_3 (by decide) ?_
  refine lv_istore (lv' := [(7, .int (nI 0)), (5, .long (lI (gK X Y me c 0))), (0, .ref (q)), (1, .long (lN c)), (3, .ref (x)), (4, .ref (y))]) S.1 S.2.1 dX0_gather_4 hl (by decide) rfl (fun ls hl => ?_)
  refine wlp (P := fun k_ ls H' locs' => ∃ (i : Nat) (mg : Nat → Int32) (v : Wm), lv_has ls 9 [(0, .ref (q)), (1, .long (lN c)), (3, .ref (x)), (4, .ref (y)), (5, .long (lI (gK X Y me c i))), (7, .int (nI i))] ∧ HS G B v (n) s H' locs' ∧ v (q) = some (eO 0 [v0, v1, v2, .ref (m), .int (nI bg)]) ∧ v (m) = some (eI G (60) (mg)) ∧ v (x) = some (eO 1 [.ref (x + 1), .ref (x + 2), .int (nI X.length), .ref (x + 3), .int (kx)]) ∧ v (x + 1) = some (eJ G (cx) (fx)) ∧ v (x + 2) = some (eI G (cx) (gx)) ∧ v (y) = some (eO 1 [.ref (y + 1), .ref (y + 2), .int (nI Y.length), .ref (y + 3), .int (ky)]) ∧ v (y + 1) = some (eJ G (cy) (fy)) ∧ v (y + 2) = some (eI G (cy) (gy)) ∧ (∀ b, b ≠ m → v b = w b) ∧ (i ≤ bg) ∧ (∀ u, u < X.length → mg u = nI (gM X Y me c i u)) ∧ k_ = bg - i) ?_ (k0 := bg - (0)) ⟨0, mf, w, lv_sub hl [2, 3, 4, 5, 1, 0] rfl, hH, hq, hm, hx0, hxa, hxb, hy0, hya, hyb, hF, by omega, fun u h => by rw [(hme u h).1, gM_0], rfl⟩
  intro k6 ls H locs hP ih6
  obtain ⟨i, mg, v, hl, hH, hq, hm, hx0, hxa, hxb, hy0, hya, hyb, hF, hi, hgm, hk6⟩ := hP
  refine lv_iload S.1 S.2.1 dX0_gather_6 (lv_at hl 5 rfl) ?_
  refine lv_aload_n S.1 S.2.1 dX0_gather_8 rfl (lv_at hl 0 rfl) ?_
  refine gfX0_30 S hK hH hq dX0_gather_9 ?_
  refine bn_ge (tgt := 95) S dX0_gather_12 (by decide) (by omega) (fun c12 => ?_) (fun c12 => ?_)
  · skip
    refine lv_lload S.1 S.2.1 dX0_gather_95 (lv_at hl 4 rfl) ?_
    exact rt_l S hr hlk hH dX0_gather_97 (⟨rfl, hF, by rw [show i = bg by omega], mg, hm, fun u h => by rw [hgm u h, show i = bg by omega]⟩)
  · skip
    have hmi := hme i (by omega)
    have hbx := okx i (by omega)
    refine lv_aload_n S.1 S.2.1 dX0_gather_15 rfl (lv_at hl 0 rfl) ?_
    refine gfX0_26 S hK hH hq dX0_gather_16 ?_
    refine lv_iload S.1 S.2.1 dX0_gather_19 (lv_at hl 5 rfl) ?_
    refine ald_i S hK hH hm (by omega) (by omega) dX0_gather_21 ?_
    refine tpi (x' := nI (me i)) (by rw [hgm i (by omega), gM_at]) ?_
    refine lv_istore (lv' := [(8, .int (nI (me i))), (0, .ref (q)), (1, .long (lN c)), (3, .ref (x)), (4, .ref (y)), (5, .long (lI (gK X Y me c i))), (7, .int (nI i))]) S.1 S.2.1 dX0_gather_22 hl (by decide) rfl (fun ls hl => ?_)
    refine lv_iload S.1 S.2.1 dX0_gather_24 (lv_at hl 0 rfl) ?_
    refine lv_aload S.1 S.2.1 dX0_gather_26 (lv_at hl 4 rfl) ?_
    refine gfX0_49 S hK hH hy0 dX0_gather_28 ?_
    refine bn_ge (tgt := 89) S dX0_gather_31 (by decide) (by omega) (fun c31 => ?_) (fun c31 => ?_)
    · skip
      have hmiss : ¬ (me i < Y.length ∧ cd X i + cd Y (me i) = c) := by omega
      rw [← gK_miss hmiss] at hl
      refine lv_iinc (v := nI (i + 1)) (lv' := [(7, .int (nI (i + 1))), (8, .int (nI (me i))), (0, .ref (q)), (1, .long (lN c)), (3, .ref (x)), (4, .ref (y)), (5, .long (lI (gK X Y me c (i + 1))))]) S.1 S.2.1 dX0_gather_89 hl (k := 6) rfl (nI_inc _ 1) (by decide) rfl (fun ls hl => ?_)
      refine lv_goto (tgt := 6) S.1 S.2.1 dX0_gather_92 (by decide) ?_
      exact ih6 _ _ _ _ (by omega) ⟨i + 1, _, v, lv_sub hl [2, 3, 4, 5, 6, 0] rfl, hH, hq, hm, hx0, hxa, hxb, hy0, hya, hyb, hF, by omega, fun u h => by rw [hgm u h, gM_miss hmiss], rfl⟩
    · skip
      have hby := oky (me i) c31
      refine lv_aload_n S.1 S.2.1 dX0_gather_34 rfl (lv_at hl 3 rfl) ?_
      refine gfX0_69 S hK hH hx0 dX0_gather_35 ?_
      refine lv_iload S.1 S.2.1 dX0_gather_38 (lv_at hl 6 rfl) ?_
      refine ald_l S hK hH hxa (by omega) (by omega) dX0_gather_40 ?_
      refine tpl (x' := lN (cd X i)) (hx6 i (by omega)) ?_
      refine lv_aload S.1 S.2.1 dX0_gather_41 (lv_at hl 4 rfl) ?_
      refine gfX0_69 S hK hH hy0 dX0_gather_43 ?_
      refine lv_iload S.1 S.2.1 dX0_gather_46 (lv_at hl 0 rfl) ?_
      refine ald_l S hK hH hya (by omega) (by omega) dX0_gather_48 ?_
      refine tpl (x' := lN (cd Y (me i))) (hy6 _ c31) ?_
      refine lv_ladd S.1 S.2.1 dX0_gather_49 ?_
      refine tpl (x' := lN (cd X i + cd Y (me i))) (lN_add _ _) ?_
      refine lv_lload_n S.1 S.2.1 dX0_gather_50 rfl (lv_at hl 2 rfl) ?_
      refine bl_ne (tgt := 89) S dX0_gather_51 dX0_gather_52 (by decide) (fun c51 => ?_) (fun c51 => ?_)
      · skip
        have c51 : cd X i + cd Y (me i) ≠ c := fun e => c51 (by rw [e])
        have hmiss : ¬ (me i < Y.length ∧ cd X i + cd Y (me i) = c) := fun e => c51 e.2
        rw [← gK_miss hmiss] at hl
        refine lv_iinc (v := nI (i + 1)) (lv' := [(7, .int (nI (i + 1))), (8, .int (nI (me i))), (0, .ref (q)), (1, .long (lN c)), (3, .ref (x)), (4, .ref (y)), (5, .long (lI (gK X Y me c (i + 1))))]) S.1 S.2.1 dX0_gather_89 hl (k := 6) rfl (nI_inc _ 1) (by decide) rfl (fun ls hl => ?_)
        refine lv_goto (tgt := 6) S.1 S.2.1 dX0_gather_92 (by decide) ?_
        exact ih6 _ _ _ _ (by omega) ⟨i + 1, _, v, lv_sub hl [2, 3, 4, 5, 6, 0] rfl, hH, hq, hm, hx0, hxa, hxb, hy0, hya, hyb, hF, by omega, fun u h => by rw [hgm u h, gM_miss hmiss], rfl⟩
      · skip
        have c51 : cd X i + cd Y (me i) = c := (pk_lEQ (by omega) (by omega)).mp c51
        refine lv_lload S.1 S.2.1 dX0_gather_55 (lv_at hl 5 rfl) ?_
        refine lv_aload_n S.1 S.2.1 dX0_gather_57 rfl (lv_at hl 3 rfl) ?_
        refine gfX0_79 S hK hH hx0 dX0_gather_58 ?_
        refine lv_iload S.1 S.2.1 dX0_gather_61 (lv_at hl 6 rfl) ?_
        refine ald_i S hK hH hxb (by omega) (by omega) dX0_gather_63 ?_
        refine tpi (x' := iI (cf X i)) (hx7 i (by omega)) ?_
        refine lv_i2l (v := lI (cf X i)) S.1 S.2.1 dX0_gather_64 (iI_l (by omega)) ?_
        refine lv_aload S.1 S.2.1 dX0_gather_65 (lv_at hl 4 rfl) ?_
        refine gfX0_79 S hK hH hy0 dX0_gather_67 ?_
        refine lv_iload S.1 S.2.1 dX0_gather_70 (lv_at hl 0 rfl) ?_
        refine ald_i S hK hH hyb (by omega) (by omega) dX0_gather_72 ?_
        refine tpi (x' := iI (cf Y (me i))) (hy7 _ c31) ?_
        refine lv_i2l (v := lI (cf Y (me i))) S.1 S.2.1 dX0_gather_73 (iI_l (by omega)) ?_
        refine lv_lmul S.1 S.2.1 dX0_gather_74 ?_
        refine tpl (x' := lI ((cf X i) * (cf Y (me i)))) (lI_mul _ _) ?_
        refine lv_ladd S.1 S.2.1 dX0_gather_75 ?_
        refine tpl (x' := lI (gK X Y me c (i + 1))) (by rw [lI_add, gK_hit ⟨c31, c51⟩]) ?_
        refine lv_lstore (lv' := [(5, .long (lI (gK X Y me c (i + 1)))), (8, .int (nI (me i))), (0, .ref (q)), (1, .long (lN c)), (3, .ref (x)), (4, .ref (y)), (7, .int (nI i))]) S.1 S.2.1 dX0_gather_76 hl (by decide) rfl (fun ls hl => ?_)
        refine lv_aload_n S.1 S.2.1 dX0_gather_78 rfl (lv_at hl 2 rfl) ?_
        refine gfX0_26 S hK hH hq dX0_gather_79 ?_
        refine lv_iload S.1 S.2.1 dX0_gather_82 (lv_at hl 6 rfl) ?_
        refine lv_iload S.1 S.2.1 dX0_gather_84 (lv_at hl 1 rfl) ?_
        refine lv_iconst (v := nI 1) S.1 S.2.1 dX0_gather_86 (by decide) ?_
        refine lv_iadd S.1 S.2.1 dX0_gather_87 ?_
        refine tpi (x' := nI (me i + 1)) (nI_add _ _) ?_
        refine ast_i S hK hH hm (by omega) (by omega) dX0_gather_88 (fun w1 H locs hm fr hH => ?_)
        replace hq := (fr (q) (by omega)).trans hq
        replace hx0 := (fr (x) (by omega)).trans hx0
        replace hxa := (fr (x + 1) (by omega)).trans hxa
        replace hxb := (fr (x + 2) (by omega)).trans hxb
        replace hy0 := (fr (y) (by omega)).trans hy0
        replace hya := (fr (y + 1) (by omega)).trans hya
        replace hyb := (fr (y + 2) (by omega)).trans hyb
        replace hF : ∀ b, b ≠ m → w1 b = w b := fun b hb => (fr b (by omega)).trans (hF b hb)
        refine lv_iinc (v := nI (i + 1)) (lv' := [(7, .int (nI (i + 1))), (5, .long (lI (gK X Y me c (i + 1)))), (8, .int (nI (me i))), (0, .ref (q)), (1, .long (lN c)), (3, .ref (x)), (4, .ref (y))]) S.1 S.2.1 dX0_gather_89 hl (k := 6) rfl (nI_inc _ 1) (by decide) rfl (fun ls hl => ?_)
        refine lv_goto (tgt := 6) S.1 S.2.1 dX0_gather_92 (by decide) ?_
        exact ih6 _ _ _ _ (by omega) ⟨i + 1, _, w1, lv_sub hl [3, 4, 5, 6, 1, 0] rfl, hH, hq, hm, hx0, hxa, hxb, hy0, hya, hyb, hF, by omega, gM_hit hgm ⟨c31, c51⟩, rfl⟩

set_option maxHeartbeats 4000000 in
set_option maxRecDepth 100000 in
theorem kX0_merge {l : Launch} {G : Gx} {B : Nat} {w : Wm} {n : Nat} (q m t x y cx cy : Nat) (X Y : PL) (kx ky tk : Int32) (px py tp : Nat → Int32) (v0 v1 v2 : Value) (bg : Int32) (mf : Nat → Int32) (hq : w q = some (eO 0 [v0, v1, v2, .ref m, .int bg])) (hm : w m = some (eI G 60 mf)) (ht : PolyC G w t 60 [] tk tp) (hx : PolyC G w x cx X kx px) (hy : PolyC G w y cy Y ky py) (okx : okL X) (oky : okL Y) (hX : 0 < X.length) (hmq : m ≠ q) (hmx : m < x ∨ x + 4 ≤ m) (hmy : m < y ∨ y + 4 ≤ m) (hmt : m < t ∨ t + 4 ≤ m) (hqx : q < x ∨ x + 4 ≤ q) (hqy : q < y ∨ y + 4 ≤ q) (hqt : q < t ∨ t + 4 ≤ q) (htx : t + 4 ≤ x ∨ x + 4 ≤ t) (hty : t + 4 ≤ y ∨ y + 4 ≤ t) : Met l yX0_merge (wsM yX0_merge cX0_merge 8 (some .boolean)) ({ frames := 2, cells := 0, slots := 0, locals := 48 } : Room) (Pcx G B w n [.ref (q), .ref (t), .ref (x), .ref (y)]) (Qi G B (fun r w' n' => n' = n ∧ (∀ b, (b ≠ q ∧ b ≠ m ∧ (b < t ∨ t + 3 ≤ b)) → w' b = w b) ∧ (∃ bg', w' q = some (eO 0 [v0, v1, v2, .ref m, .int bg'])) ∧ (∃ mf', w' m = some (eI G 60 mf')) ∧ ((r = 1 ∧ ∃ L', mrg X Y (X.length * Y.length) [] (fun _ => 0) 1 = some L' ∧ PolyC G w' t 60 L' tk tp) ∨ (r = 0 ∧ mrg X Y (X.length * Y.length) [] (fun _ => 0) 1 = none ∧ ∃ L', PolyC G w' t 60 L' tk tp)))) 0 0 (FA B) := by
  refine en (by decide) (Nat.le_of_ble_eq_true rfl) ?_
  intro p ev s mm ag bl mt co S hr hlk hnm hK H hH ls hl
  have hl : lv_has ls 8 [(0, .ref (q)), (1, .ref (t)), (2, .ref (x)), (3, .ref (y))] := hl
  have hlx : X.length ≤ 60 := hx.len
  have hly : Y.length ≤ 60 := hy.len
  have hmul : X.length * Y.length ≤ 60 * 60 := Nat.mul_le_mul hlx hly
  have hF : ∀ b, b ≠ q ∧ b ≠ m ∧ (b < t ∨ t + 3 ≤ b) → w b = w b := fun _ _ => rfl
  refine lv_iconst (v := nI 0) S.1 S.2.1 dX0_merge_0 (by decide) ?_
  refine lv_istore (lv' := [(4, .int (nI 0)), (0, .ref (q)), (1, .ref (t)), (2, .ref (x)), (3, .ref (y))]) S.1 S.2.1 dX0_merge_1 hl (by decide) rfl (fun ls hl => ?_)
  refine wlp (P := fun k_ ls H' locs' => ∃ (i : Nat) (mg : Nat → Int32) (v : Wm), lv_has ls 8 [(0, .ref (q)), (1, .ref (t)), (2, .ref (x)), (3, .ref (y)), (4, .int (nI i))] ∧ HS G B v (n) s H' locs' ∧ v (q) = some (eO 0 [v0, v1, v2, .ref (m), .int (bg)]) ∧ v (m) = some (eI G (60) (mg)) ∧ (PolyC G v t 60 [] tk tp) ∧ (PolyC G v x cx X kx px) ∧ (PolyC G v y cy Y ky py) ∧ (∀ b, b ≠ q ∧ b ≠ m ∧ (b < t ∨ t + 3 ≤ b) → v b = w b) ∧ (i ≤ X.length) ∧ (∀ u, u < i → mg u = nI 0) ∧ k_ = X.length - i) ?_ (k0 := X.length - (0)) ⟨0, mf, w, lv_sub hl [1, 2, 3, 4, 0] rfl, hH, hq, hm, ht, hx, hy, hF, by omega, fun u h => absurd h (Nat.not_lt_zero u), rfl⟩
  intro k3 ls H locs hP ih3
  obtain ⟨i, mg, v, hl, hH, hq, hm, ht, hx, hy, hF, hi, hz, hk3⟩ := hP
  refine lv_iload S.1 S.2.1 dX0_merge_3 (lv_at hl 4 rfl) ?_
  refine lv_aload_n S.1 S.2.1 dX0_merge_5 rfl (lv_at hl 2 rfl) ?_
  refine gfX0_49 S hK hH hx.ob dX0_merge_6 ?_
  refine bn_ge (tgt := 26) S dX0_merge_9 (by decide) (by omega) (fun c9 => ?_) (fun c9 => ?_)
  · skip
    refine lv_aload_n S.1 S.2.1 dX0_merge_26 rfl (lv_at hl 0 rfl) ?_
    refine lv_iconst (v := nI 1) S.1 S.2.1 dX0_merge_27 (by decide) ?_
    refine pfX0_30 S hK hH hq dX0_merge_28 (fun w1 H locs hq fr hH => ?_)
    replace hm := (fr (m) (by omega)).trans hm
    replace ht := ht.kept (fun b h1 h2 => fr b (by omega))
    replace hx := hx.kept (fun b h1 h2 => fr b (by omega))
    replace hy := hy.kept (fun b h1 h2 => fr b (by omega))
    replace hF : ∀ b, b ≠ q ∧ b ≠ m ∧ (b < t ∨ t + 3 ≤ b) → w1 b = w b := fun b hb => (fr b (by omega)).trans (hF b hb)
    refine lv_aload_n S.1 S.2.1 dX0_merge_31 rfl (lv_at hl 2 rfl) ?_
    refine gfX0_49 S hK hH hx.ob dX0_merge_32 ?_
    refine lv_aload_n S.1 S.2.1 dX0_merge_35 rfl (lv_at hl 3 rfl) ?_
    refine gfX0_49 S hK hH hy.ob dX0_merge_36 ?_
    refine lv_imul S.1 S.2.1 dX0_merge_39 ?_
    refine tpi (x' := nI ((X.length) * (Y.length))) (pk_mul _ _) ?_
    refine lv_istore (lv' := [(4, .int (nI ((X.length) * (Y.length)))), (0, .ref (q)), (1, .ref (t)), (2, .ref (x)), (3, .ref (y))]) S.1 S.2.1 dX0_merge_40 hl (by decide) rfl (fun ls hl => ?_)
    refine lv_iconst (v := nI 0) S.1 S.2.1 dX0_merge_42 (by decide) ?_
    refine lv_istore (lv' := [(5, .int (nI 0)), (4, .int (nI ((X.length) * (Y.length)))), (0, .ref (q)), (1, .ref (t)), (2, .ref (x)), (3, .ref (y))]) S.1 S.2.1 dX0_merge_43 hl (by decide) rfl (fun ls hl => ?_)
    refine wlp (P := fun k_ ls H' locs' => ∃ (u bg : Nat) (acc : PL) (me : Nat → Nat) (mg : Nat → Int32) (v : Wm), lv_has ls 8 [(0, .ref (q)), (1, .ref (t)), (2, .ref (x)), (3, .ref (y)), (4, .int (nI (X.length * Y.length))), (5, .int (nI u))] ∧ HS G B v (n) s H' locs' ∧ v (q) = some (eO 0 [v0, v1, v2, .ref (m), .int (nI bg)]) ∧ v (m) = some (eI G (60) (mg)) ∧ (PolyC G v t 60 acc tk tp) ∧ (PolyC G v x cx X kx px) ∧ (PolyC G v y cy Y ky py) ∧ (∀ b, b ≠ q ∧ b ≠ m ∧ (b < t ∨ t + 3 ≤ b) → v b = w b) ∧ (u ≤ X.length * Y.length) ∧ (bg ≤ X.length) ∧ (1 ≤ bg) ∧ (∀ i, i < X.length → mg i = nI (me i) ∧ me i ≤ 60) ∧ (∀ i, i < X.length → me i ≤ Y.length) ∧ (mrg X Y (X.length * Y.length) [] (fun _ => 0) 1 = mrg X Y (X.length * Y.length - u) acc me bg) ∧ k_ = X.length * Y.length - u) ?_ (k0 := X.length * Y.length - (0)) ⟨0, 1, [], fun _ => 0, mg, w1, lv_sub hl [2, 3, 4, 5, 1, 0] rfl, hH, hq, hm, ht, hx, hy, hF, by omega, by omega, by omega, fun i h => ⟨hz i (by omega), by show 0 ≤ 60; decide⟩, fun i h => Nat.zero_le _, rfl, rfl⟩
    intro k45 ls H locs hP ih45
    obtain ⟨u, bg, acc, me, mg, v, hl, hH, hq, hm, ht, hx, hy, hF, hu, hbg, hbg1, hme, hmy2, hmr, hk45⟩ := hP
    refine lv_iload S.1 S.2.1 dX0_merge_45 (lv_at hl 5 rfl) ?_
    refine lv_iload S.1 S.2.1 dX0_merge_47 (lv_at hl 4 rfl) ?_
    refine bn_ge (tgt := 129) S dX0_merge_49 (by decide) (by omega) (fun c49 => ?_) (fun c49 => ?_)
    · skip
      refine lv_iconst (v := nI 1) S.1 S.2.1 dX0_merge_129 (by decide) ?_
      exact rt_z S hr hlk hH dX0_merge_130 (by decide) (⟨rfl, hF, ⟨_, hq⟩, ⟨_, hm⟩, Or.inl ⟨rfl, acc, by rw [hmr, show X.length * Y.length - u = 0 by omega]; rfl, ht⟩⟩)
    · skip
      refine lv_aload_n S.1 S.2.1 dX0_merge_52 rfl (lv_at hl 0 rfl) ?_
      refine lv_aload_n S.1 S.2.1 dX0_merge_53 rfl (lv_at hl 2 rfl) ?_
      refine lv_aload_n S.1 S.2.1 dX0_merge_54 rfl (lv_at hl 3 rfl) ?_
      refine ck_lp (run_V (As := [.ref (x), .ref (y)]) (rest := []) S hK hH (kX0_greatestCode q m x y cx cy X Y kx ky px py v0 v1 v2 bg me mg hq hm hx hy okx oky hbg hme) ceX0_greatestCode mW189 hq rfl rfl hl.1 rfl (Nat.le_of_ble_eq_true rfl) dX0_merge_55 ⟨rfl, rfl, by decide, by decide⟩ ⟨show 0 + 0 ≤ 0 by omega, show 0 + 0 ≤ 0 by omega⟩) hH (fun r55 H locs hp hH => ?_)
      obtain rfl := hp
      refine lv_lstore (lv' := [(6, .long (lI (gC X Y me bg))), (0, .ref (q)), (1, .ref (t)), (2, .ref (x)), (3, .ref (y)), (4, .int (nI (X.length * Y.length))), (5, .int (nI u))]) S.1 S.2.1 dX0_merge_58 hl (by decide) rfl (fun ls hl => ?_)
      refine lv_lload S.1 S.2.1 dX0_merge_60 (lv_at hl 0 rfl) ?_
      refine lv_lconst (v := lI 0) S.1 S.2.1 dX0_merge_62 (by decide) ?_
      refine bl_ge (tgt := 69) S dX0_merge_63 dX0_merge_64 (by decide) (fun c63 => ?_) (fun c63 => ?_)
      · skip
        have hgb := gC_b okx oky me bg hbg
        have c63 : 0 ≤ gC X Y me bg := (lI_le (by omega) (by omega)).mp c63
        have hgn : lI (gC X Y me bg) = lN (gC X Y me bg).toNat := by rw [lN_lI, Int.toNat_of_nonneg c63]
        refine lv_aload_n S.1 S.2.1 dX0_merge_69 rfl (lv_at hl 2 rfl) ?_
        refine lv_lload S.1 S.2.1 dX0_merge_70 (lv_at hl 0 rfl) ?_
        refine tpl (x' := lN (gC X Y me bg).toNat) (hgn) ?_
        refine lv_aload_n S.1 S.2.1 dX0_merge_72 rfl (lv_at hl 1 rfl) ?_
        refine lv_lload S.1 S.2.1 dX0_merge_73 (lv_at hl 0 rfl) ?_
        refine tpl (x' := lN (gC X Y me bg).toNat) (hgn) ?_
        refine lv_aload_n S.1 S.2.1 dX0_merge_75 rfl (lv_at hl 3 rfl) ?_
        refine lv_aload_n S.1 S.2.1 dX0_merge_76 rfl (lv_at hl 4 rfl) ?_
        refine ck_l (run_V (As := [.long (lN (gC X Y me bg).toNat), .ref (x), .ref (y)]) (rest := [.long (lN (gC X Y me bg).toNat), .ref (t)]) S hK hH (kX0_gather q m x y cx cy X Y kx ky px py v0 v1 v2 bg me mg (gC X Y me bg).toNat hq hm hx hy okx oky hbg hme hmq hmx hmy (by omega)) ceX0_gather mW197 hq rfl rfl hl.1 rfl (Nat.le_of_ble_eq_true rfl) dX0_merge_77 ⟨rfl, rfl, by decide, by decide⟩ ⟨show 0 + 0 ≤ 0 by omega, show 0 + 0 ≤ 0 by omega⟩) hH (fun r77 w3 n3 H locs hp hH => ?_)
        obtain ⟨hn1, hfr, ⟨rfl, mg', hm, hgm⟩⟩ := hp
        rw [hn1] at hH
        replace hq := (hfr (q) (by omega)).trans hq
        replace ht := ht.kept (fun b h1 h2 => hfr b (by omega))
        replace hx := hx.kept (fun b h1 h2 => hfr b (by omega))
        replace hy := hy.kept (fun b h1 h2 => hfr b (by omega))
        replace hF : ∀ b, b ≠ q ∧ b ≠ m ∧ (b < t ∨ t + 3 ≤ b) → w3 b = w b := fun b hb => (hfr b (by omega)).trans (hF b hb)
        refine ck_i (run_VN (As := [.long (lN (gC X Y me bg).toNat), .long (lI (gK X Y me (gC X Y me bg).toNat bg))]) (rest := []) S hK hH (kX1_append t 60 (gC X Y me bg).toNat acc (gK X Y me (gC X Y me bg).toNat bg) tk tp ht (gK_b okx oky me _ (by omega))) ceX1_append mN114 ht.ob rfl rfl hl.1 rfl (Nat.le_of_ble_eq_true rfl) dX0_merge_80 ⟨rfl, rfl, by decide, by decide⟩ ⟨show 0 + 0 ≤ 0 by omega, show 0 + 0 ≤ 0 by omega⟩) hH (fun r80 w4 n4 H locs hp hH => ?_)
        obtain ⟨hn1, hfr, hqq⟩ := hp
        rw [hn1] at hH
        replace hq := (hfr (q) (by omega)).trans hq
        replace hm := (hfr (m) (by omega)).trans hm
        replace hx := hx.kept (fun b h1 h2 => hfr b (by omega))
        replace hy := hy.kept (fun b h1 h2 => hfr b (by omega))
        replace hF : ∀ b, b ≠ q ∧ b ≠ m ∧ (b < t ∨ t + 3 ≤ b) → w4 b = w b := fun b hb => (hfr b (by omega)).trans (hF b hb)
        refine lv_if_ne (tgt := 88) S.1 S.2.1 dX0_merge_83 (by decide) (fun c83 => ?_) (fun c83 => ?_)
        · skip
          rcases hqq with ⟨_, L', e1, ht⟩ | ⟨e1, _⟩
          rotate_left
          · exact absurd e1 c83
          have hme2 := me_up (c := (gC X Y me bg).toNat) (bg := bg) hly hmy2
          refine lv_aload_n S.1 S.2.1 dX0_merge_88 rfl (lv_at hl 1 rfl) ?_
          refine gfX0_30 S hK hH hq dX0_merge_89 ?_
          refine lv_aload_n S.1 S.2.1 dX0_merge_92 rfl (lv_at hl 3 rfl) ?_
          refine gfX0_49 S hK hH hx.ob dX0_merge_93 ?_
          refine bn_ge (tgt := 123) S dX0_merge_96 (by decide) (by omega) (fun c96 => ?_) (fun c96 => ?_)
          · skip
            have hnb : ¬ (bg < X.length ∧ 0 < gM X Y me (gC X Y me bg).toNat bg (bg - 1)) := by omega
            refine lv_iinc (v := nI (u + 1)) (lv' := [(5, .int (nI (u + 1))), (6, .long (lI (gC X Y me bg))), (0, .ref (q)), (1, .ref (t)), (2, .ref (x)), (3, .ref (y)), (4, .int (nI (X.length * Y.length)))]) S.1 S.2.1 dX0_merge_123 hl (k := 6) rfl (nI_inc _ 1) (by decide) rfl (fun ls hl => ?_)
            refine lv_goto (tgt := 45) S.1 S.2.1 dX0_merge_126 (by decide) ?_
            exact ih45 _ _ _ _ (by omega) ⟨u + 1, bg, L', _, mg', w4, lv_sub hl [2, 3, 4, 5, 6, 0] rfl, hH, hq, hm, ht, hx, hy, hF, c49, by omega, by omega, fun i h => ⟨hgm i h, (hme2 i h).2⟩, fun i h => (hme2 i h).1, hmr.trans (mrg_miss c49 c63 e1 hnb), rfl⟩
          · skip
            refine lv_aload_n S.1 S.2.1 dX0_merge_99 rfl (lv_at hl 1 rfl) ?_
            refine gfX0_26 S hK hH hq dX0_merge_100 ?_
            refine lv_aload_n S.1 S.2.1 dX0_merge_103 rfl (lv_at hl 1 rfl) ?_
            refine gfX0_30 S hK hH hq dX0_merge_104 ?_
            refine lv_iconst (v := nI 1) S.1 S.2.1 dX0_merge_107 (by decide) ?_
            refine lv_isub S.1 S.2.1 dX0_merge_108 ?_
            refine tpi (x' := nI (bg - 1)) (pk_sub (by omega)) ?_
            refine ald_i S hK hH hm (by omega) (by omega) dX0_merge_109 ?_
            refine tpi (x' := nI (gM X Y me (gC X Y me bg).toNat bg (bg - 1))) (hgm _ (by omega)) ?_
            have hmb := hme2 (bg - 1) (by omega)
            refine lv_if_le (tgt := 123) S.1 S.2.1 dX0_merge_110 (by decide) (fun c110 => ?_) (fun c110 => ?_)
            · skip
              have hnb : ¬ (bg < X.length ∧ 0 < gM X Y me (gC X Y me bg).toNat bg (bg - 1)) := fun e => absurd c110 (nI_nle e.2 (by omega))
              refine lv_iinc (v := nI (u + 1)) (lv' := [(5, .int (nI (u + 1))), (6, .long (lI (gC X Y me bg))), (0, .ref (q)), (1, .ref (t)), (2, .ref (x)), (3, .ref (y)), (4, .int (nI (X.length * Y.length)))]) S.1 S.2.1 dX0_merge_123 hl (k := 6) rfl (nI_inc _ 1) (by decide) rfl (fun ls hl => ?_)
              refine lv_goto (tgt := 45) S.1 S.2.1 dX0_merge_126 (by decide) ?_
              exact ih45 _ _ _ _ (by omega) ⟨u + 1, bg, L', _, mg', w4, lv_sub hl [2, 3, 4, 5, 6, 0] rfl, hH, hq, hm, ht, hx, hy, hF, c49, by omega, by omega, fun i h => ⟨hgm i h, (hme2 i h).2⟩, fun i h => (hme2 i h).1, hmr.trans (mrg_miss c49 c63 e1 hnb), rfl⟩
            · skip
              have hnb : bg < X.length ∧ 0 < gM X Y me (gC X Y me bg).toNat bg (bg - 1) := by
                refine ⟨c96, ?_⟩
                rcases Nat.eq_zero_or_pos (gM X Y me (gC X Y me bg).toNat bg (bg - 1)) with e | e
                · rw [e] at c110; exact absurd (by decide) c110
                · exact e
              refine lv_aload_n S.1 S.2.1 dX0_merge_113 rfl (lv_at hl 1 rfl) ?_
              refine lv_dup S.1 S.2.1 dX0_merge_114 rfl ?_
              refine gfX0_30 S hK hH hq dX0_merge_115 ?_
              refine lv_iconst (v := nI 1) S.1 S.2.1 dX0_merge_118 (by decide) ?_
              refine lv_iadd S.1 S.2.1 dX0_merge_119 ?_
              refine tpi (x' := nI (bg + 1)) (nI_add _ _) ?_
              refine pfX0_30 S hK hH hq dX0_merge_120 (fun w5 H locs hq fr hH => ?_)
              replace hm := (fr (m) (by omega)).trans hm
              replace ht := ht.kept (fun b h1 h2 => fr b (by omega))
              replace hx := hx.kept (fun b h1 h2 => fr b (by omega))
              replace hy := hy.kept (fun b h1 h2 => fr b (by omega))
              replace hF : ∀ b, b ≠ q ∧ b ≠ m ∧ (b < t ∨ t + 3 ≤ b) → w5 b = w b := fun b hb => (fr b (by omega)).trans (hF b hb)
              refine lv_iinc (v := nI (u + 1)) (lv' := [(5, .int (nI (u + 1))), (6, .long (lI (gC X Y me bg))), (0, .ref (q)), (1, .ref (t)), (2, .ref (x)), (3, .ref (y)), (4, .int (nI (X.length * Y.length)))]) S.1 S.2.1 dX0_merge_123 hl (k := 6) rfl (nI_inc _ 1) (by decide) rfl (fun ls hl => ?_)
              refine lv_goto (tgt := 45) S.1 S.2.1 dX0_merge_126 (by decide) ?_
              exact ih45 _ _ _ _ (by omega) ⟨u + 1, bg + 1, L', _, mg', w5, lv_sub hl [2, 3, 4, 5, 6, 0] rfl, hH, hq, hm, ht, hx, hy, hF, c49, by omega, by omega, fun i h => ⟨hgm i h, (hme2 i h).2⟩, fun i h => (hme2 i h).1, hmr.trans (mrg_hit c49 c63 e1 hnb), rfl⟩
        · skip
          rcases hqq with ⟨e1, _⟩ | ⟨_, e1, e2⟩
          · rw [e1] at c83; exact absurd c83 (by decide)
          rw [← e2] at ht
          refine lv_iconst (v := nI 0) S.1 S.2.1 dX0_merge_86 (by decide) ?_
          exact rt_z S hr hlk hH dX0_merge_87 (by decide) (⟨rfl, hF, ⟨_, hq⟩, ⟨_, hm⟩, Or.inr ⟨rfl, hmr.trans (mrg_none c49 c63 e1), acc, ht⟩⟩)
      · skip
        have hgb := gC_b okx oky me bg hbg
        have c63 : gC X Y me bg < 0 := Int.lt_of_not_ge (fun e => c63 ((lI_le (by omega) (by omega)).mpr e))
        refine lv_iconst (v := nI 1) S.1 S.2.1 dX0_merge_67 (by decide) ?_
        exact rt_z S hr hlk hH dX0_merge_68 (by decide) (⟨rfl, hF, ⟨_, hq⟩, ⟨_, hm⟩, Or.inl ⟨rfl, acc, by rw [hmr]; exact mrg_end c63, ht⟩⟩)
  · skip
    refine lv_aload_n S.1 S.2.1 dX0_merge_12 rfl (lv_at hl 0 rfl) ?_
    refine gfX0_26 S hK hH hq dX0_merge_13 ?_
    refine lv_iload S.1 S.2.1 dX0_merge_16 (lv_at hl 4 rfl) ?_
    refine lv_iconst (v := nI 0) S.1 S.2.1 dX0_merge_18 (by decide) ?_
    refine ast_i S hK hH hm (by omega) (by omega) dX0_merge_19 (fun w6 H locs hm fr hH => ?_)
    replace hq := (fr (q) (by omega)).trans hq
    replace ht := ht.kept (fun b h1 h2 => fr b (by omega))
    replace hx := hx.kept (fun b h1 h2 => fr b (by omega))
    replace hy := hy.kept (fun b h1 h2 => fr b (by omega))
    replace hF : ∀ b, b ≠ q ∧ b ≠ m ∧ (b < t ∨ t + 3 ≤ b) → w6 b = w b := fun b hb => (fr b (by omega)).trans (hF b hb)
    refine lv_iinc (v := nI (i + 1)) (lv' := [(4, .int (nI (i + 1))), (0, .ref (q)), (1, .ref (t)), (2, .ref (x)), (3, .ref (y))]) S.1 S.2.1 dX0_merge_20 hl (k := 4) rfl (nI_inc _ 1) (by decide) rfl (fun ls hl => ?_)
    refine lv_goto (tgt := 3) S.1 S.2.1 dX0_merge_23 (by decide) ?_
    exact ih3 _ _ _ _ (by omega) ⟨i + 1, _, w6, lv_sub hl [1, 2, 3, 4, 0] rfl, hH, hq, hm, ht, hx, hy, hF, c9, lt_s (fun u h => by rw [pk_un (by omega)]; exact hz u h) pk_us, rfl⟩

