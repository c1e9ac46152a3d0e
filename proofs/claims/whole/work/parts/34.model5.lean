def ModI (σ : St) (Sl : Nat → PL) (nu f1 f2 f3 f4 : Nat → Int32) : Prop := (∀ i, i < 16 → Sl i = σ.1 i) ∧ (∀ i, i < σ.2.2.1 → Sl (16 + i) = σ.2.1 i) ∧ σ.2.2.1 ≤ 40 ∧ σ.2.2.2.2.2 ≤ 20 ∧ ∀ i, i < σ.2.2.2.2.2 → nu i = nI (σ.2.2.2.1 i) ∧ σ.2.2.2.1 i ≤ 99999999 ∧ f1 i = σ.2.2.2.2.1 (4 * i) ∧ f2 i = σ.2.2.2.2.1 (4 * i + 1) ∧ f3 i = σ.2.2.2.2.1 (4 * i + 2) ∧ f4 i = σ.2.2.2.2.1 (4 * i + 3)
def ModS (G : Gx) (w : Wm) (M : Nat) (σ : St) : Prop := ∃ (Sl : Nat → PL) (cnt big : Int32) (ma : Nat → Int32) (gc gh gl fc fh fl : Nat → Int64) (nu f1 f2 f3 f4 : Nat → Int32), w M = some (MOb M (nI σ.2.2.1) (nI σ.2.2.2.2.2) cnt big) ∧ w (M + 1) = some (eI G 62 ma) ∧ w (M + 2) = some (eJ G 3720 gc) ∧ w (M + 3) = some (eJ G 3720 gh) ∧ w (M + 4) = some (eJ G 3720 gl) ∧ w (M + 5) = some (eI G 20 nu) ∧ w (M + 6) = some (eI G 20 f1) ∧ w (M + 7) = some (eI G 20 f2) ∧ w (M + 8) = some (eI G 20 f3) ∧ w (M + 9) = some (eI G 20 f4) ∧ w (M + 10) = some (eJ G 3700 fc) ∧ w (M + 11) = some (eJ G 3700 fh) ∧ w (M + 12) = some (eJ G 3700 fl) ∧ SlotsOK ma gc gh gl Sl ∧ ModI σ Sl nu f1 f2 f3 f4
section M34
variable {σ : St} {Sl : Nat → PL} {nu f1 f2 f3 f4 : Nat → Int32} {j : Nat}
theorem reg_I {K : PL} (h : ModI σ Sl nu f1 f2 f3 f4) (hj : j < 16) : ModI (va_up σ.1 j K, σ.2) (va_up Sl j K) nu f1 f2 f3 f4 := by
  obtain ⟨h1, h2, h3⟩ := h
  refine ⟨fun i hi => ?_, fun i hi => ?_, h3⟩
  · show va_up Sl j K i = va_up σ.1 j K i
    by_cases q : i = j
    · rw [q, va_up_self, va_up_self]
    · rw [va_up_ne _ _ q, va_up_ne _ _ q]; exact h1 i hi
  · rw [va_up_ne _ _ (by omega)]; exact h2 i hi
theorem mkeep_I (h : ModI σ Sl nu f1 f2 f3 f4) (hj : j ≤ σ.2.2.1) : ModI (σ.1, σ.2.1, j, σ.2.2.2) Sl nu f1 f2 f3 f4 := by
  obtain ⟨h1, h2, h3, h4⟩ := h
  exact ⟨h1, fun i hi => h2 i (Nat.lt_of_lt_of_le hi hj), Nat.le_trans hj h3, h4⟩
theorem mhyp_I (h : ModI σ Sl nu f1 f2 f3 f4) (hj : j < 16) (hh : σ.2.2.1 < 40) : ModI (σ.1, va_up σ.2.1 σ.2.2.1 (σ.1 j), σ.2.2.1 + 1, σ.2.2.2) (va_up Sl (16 + σ.2.2.1) (Sl j)) nu f1 f2 f3 f4 := by
  obtain ⟨h1, h2, h3, h4⟩ := h
  refine ⟨fun i hi => ?_, fun i hi => ?_, hh, h4⟩
  · rw [va_up_ne _ _ (by omega)]; exact h1 i hi
  · have hi' : i < σ.2.2.1 + 1 := hi
    show va_up Sl (16 + σ.2.2.1) (Sl j) (16 + i) = va_up σ.2.1 σ.2.2.1 (σ.1 j) i
    by_cases q : i = σ.2.2.1
    · rw [q, va_up_self, va_up_self]; exact h1 j hj
    · rw [va_up_ne _ _ (by omega), va_up_ne _ _ q]; exact h2 i (by omega)
theorem mnone_I (h : ModI σ Sl nu f1 f2 f3 f4) : ModI (σ.1, σ.2.1, σ.2.2.1, σ.2.2.2.1, σ.2.2.2.2.1, 0) Sl nu f1 f2 f3 f4 := by
  obtain ⟨h1, h2, h3, h4, h5⟩ := h
  exact ⟨h1, h2, h3, Nat.zero_le _, fun i hi => absurd hi (Nat.not_lt_zero i)⟩
theorem mpart_I {q : Nat} {a b c d : Int32} (h : ModI σ Sl nu f1 f2 f3 f4) (hq : q ≤ 99999999) (hp : σ.2.2.2.2.2 < 20) : ModI (σ.1, σ.2.1, σ.2.2.1, va_up σ.2.2.2.1 σ.2.2.2.2.2 q, upd (upd (upd (upd σ.2.2.2.2.1 (4 * σ.2.2.2.2.2) a) (4 * σ.2.2.2.2.2 + 1) b) (4 * σ.2.2.2.2.2 + 2) c) (4 * σ.2.2.2.2.2 + 3) d, σ.2.2.2.2.2 + 1) Sl (upd nu σ.2.2.2.2.2 (nI q)) (upd f1 σ.2.2.2.2.2 a) (upd f2 σ.2.2.2.2.2 b) (upd f3 σ.2.2.2.2.2 c) (upd f4 σ.2.2.2.2.2 d) := by
  obtain ⟨h1, h2, h3, h4, h5⟩ := h
  refine ⟨h1, h2, h3, hp, fun i hi => ?_⟩
  have hi' : i < σ.2.2.2.2.2 + 1 := hi
  show upd nu σ.2.2.2.2.2 (nI q) i = nI (va_up σ.2.2.2.1 σ.2.2.2.2.2 q i) ∧ va_up σ.2.2.2.1 σ.2.2.2.2.2 q i ≤ 99999999 ∧ upd f1 σ.2.2.2.2.2 a i = upd (upd (upd (upd σ.2.2.2.2.1 (4 * σ.2.2.2.2.2) a) (4 * σ.2.2.2.2.2 + 1) b) (4 * σ.2.2.2.2.2 + 2) c) (4 * σ.2.2.2.2.2 + 3) d (4 * i) ∧ upd f2 σ.2.2.2.2.2 b i = upd (upd (upd (upd σ.2.2.2.2.1 (4 * σ.2.2.2.2.2) a) (4 * σ.2.2.2.2.2 + 1) b) (4 * σ.2.2.2.2.2 + 2) c) (4 * σ.2.2.2.2.2 + 3) d (4 * i + 1) ∧ upd f3 σ.2.2.2.2.2 c i = upd (upd (upd (upd σ.2.2.2.2.1 (4 * σ.2.2.2.2.2) a) (4 * σ.2.2.2.2.2 + 1) b) (4 * σ.2.2.2.2.2 + 2) c) (4 * σ.2.2.2.2.2 + 3) d (4 * i + 2) ∧ upd f4 σ.2.2.2.2.2 d i = upd (upd (upd (upd σ.2.2.2.2.1 (4 * σ.2.2.2.2.2) a) (4 * σ.2.2.2.2.2 + 1) b) (4 * σ.2.2.2.2.2 + 2) c) (4 * σ.2.2.2.2.2 + 3) d (4 * i + 3)
  by_cases e : i = σ.2.2.2.2.2
  · subst e
    rw [pk_us, pk_us, pk_us, pk_us, pk_us, va_up_self]
    refine ⟨rfl, hq, ?_, ?_, ?_, ?_⟩
    · rw [pk_un (by omega), pk_un (by omega), pk_un (by omega), pk_us]
    · rw [pk_un (by omega), pk_un (by omega), pk_us]
    · rw [pk_un (by omega), pk_us]
    · rw [pk_us]
  · obtain ⟨g1, g2, g3, g4, g5, g6⟩ := h5 i (by omega)
    rw [pk_un e, pk_un e, pk_un e, pk_un e, pk_un e, va_up_ne _ _ e]
    refine ⟨g1, g2, ?_, ?_, ?_, ?_⟩
    · rw [pk_un (by omega), pk_un (by omega), pk_un (by omega), pk_un (by omega)]; exact g3
    · rw [pk_un (by omega), pk_un (by omega), pk_un (by omega), pk_un (by omega)]; exact g4
    · rw [pk_un (by omega), pk_un (by omega), pk_un (by omega), pk_un (by omega)]; exact g5
    · rw [pk_un (by omega), pk_un (by omega), pk_un (by omega), pk_un (by omega)]; exact g6
end M34
theorem one_none {z : Int} (h : cut 60 (one 0 z) = none) : 99999999 < z ∨ z < -99999999 := by
  apply Classical.byContradiction
  intro q
  have : cut 60 (one 0 z) = some (one 0 z) := by
    by_cases q0 : z = 0
    · have e : one 0 z = [] := by unfold one; rw [if_pos q0]
      rw [e]; rfl
    · have e : one 0 z = [(0, z)] := by unfold one; rw [if_neg q0]
      rw [e, cut, if_pos]
      exact ⟨by show 1 ≤ 60; decide, by simp [inB]; omega⟩
  rw [this] at h; cases h
theorem one_some {z : Int} {K : PL} (h : cut 60 (one 0 z) = some K) : one 0 z = K ∧ -99999999 ≤ z ∧ z ≤ 99999999 := by
  obtain ⟨e, _, h2⟩ := cut_some h
  refine ⟨e.symm, ?_⟩
  by_cases q : z = 0
  · omega
  · exact h2 (0, z) (by unfold one; rw [if_neg q]; exact List.mem_cons_self)
theorem sym_A {fc fh fl : Nat → Int64} {m c : Nat} (h : ar fc fh fl m (fup (fun _ => 0) c 1)) (hc : vC c) : CInv fc fh fl (fup (fun _ => 0) c 1) m 0 0 ∧ Srt [(c, (1 : Int))] ∧ (∀ t ∈ [(c, (1 : Int))], t.2 ≠ 0 ∧ vC t.1) ∧ ∀ x, co [(c, (1 : Int))] x = fup (fun _ => 0) c 1 x := by
  refine ⟨h.C, srt_cons.mpr ⟨fun s hs => (by cases hs), srt_nil⟩, fun t ht => ?_, fun x => by simp [co, fup]⟩
  rw [List.mem_singleton.mp ht]
  exact ⟨(by show (1 : Int) ≠ 0; decide), hc⟩
theorem sym_Q {ma : Nat → Int32} {gc gh gl : Nat → Int64} {Sl : Nat → PL} {z t : Nat} {r : Int32} (h : (r = 1 ∧ nI 0 = 0 ∧ cut 60 [(scode t, 1)] = some [(scode t, 1)] ∧ SlotsOK ma gc gh gl (va_up Sl z [(scode t, 1)])) ∨ (r = 0 ∧ (nI 0 = 0 → cut 60 [(scode t, 1)] = none) ∧ SlotsOK ma gc gh gl Sl)) : SlotsOK ma gc gh gl (va_up Sl z (one (scode t) 1)) := by
  rcases h with ⟨_, _, _, h⟩ | ⟨_, h, _⟩
  · exact h
  · exact absurd (h rfl) (by simp [cut, inB])
theorem sym_h {t : Nat} (h : t < 8) : lI 1 <<< ((nI (56 - (8 * t))).toInt64 &&& 63) = lN (hiC (scode t)) := by
  rw [hi_s t (by omega), if_pos h]
  have := wb_shl 1 (k := 56 - 8 * t) (by omega)
  rw [Nat.one_mul] at this
  exact this
theorem sym_h0 {t : Nat} (h : 8 ≤ t) (ht : t < 16) : lI 0 = lN (hiC (scode t)) := by
  rw [hi_s t ht, if_neg (by omega)]; rfl
theorem sym_l0 {t : Nat} (h : t < 8) : lI 0 = lN (loC (scode t)) := by
  rw [lo_s t (by omega), if_pos h]; rfl
theorem sym_l {t : Nat} (h : 8 ≤ t) (ht : t < 16) : lI 1 <<< ((nI (56 - (8 * (t - 8)))).toInt64 &&& 63) = lN (loC (scode t)) := by
  rw [lo_s t ht, if_neg (by omega)]
  have := wb_shl 1 (k := 56 - 8 * (t - 8)) (by omega)
  rw [Nat.one_mul] at this
  exact this
theorem le_nI {x : Int32} {N : Nat} (hN : N < 2 ^ 31) (h : nI N ≤ x) : (N : Int) ≤ x.toInt := by
  rw [Int32.le_iff_toInt_le, nI_toInt hN] at h; exact h
theorem m1_toInt : ((-1 : Int32)).toInt = -1 := by decide
theorem wh_1 {x : Int32} (h : x < -1) : x.toInt < -1 ∨ 15 < x.toInt := by
  rw [Int32.lt_iff_toInt_lt, m1_toInt] at h; exact Or.inl h
theorem wh_2 {x : Int32} (h : ¬ x ≤ nI 15) : x.toInt < -1 ∨ 15 < x.toInt := by
  rw [Int32.le_iff_toInt_le, nI_toInt (by decide)] at h; exact Or.inr (by omega)
theorem wh_in {x : Int32} (h1 : ¬ x < -1) (h2 : x ≤ nI 15) (h3 : x ≠ -1) : ∃ t, t < 16 ∧ x = nI t := by
  rw [Int32.lt_iff_toInt_lt, m1_toInt] at h1
  rw [Int32.le_iff_toInt_le, nI_toInt (by decide)] at h2
  have h4 : x.toInt ≠ -1 := fun e => h3 (by rw [← Int32.toInt_inj, m1_toInt]; exact e)
  refine ⟨x.toInt.toNat, by omega, ?_⟩
  rw [← Int32.toInt_inj, nI_toInt (by omega)]
  omega
theorem sTerm_k {σ : St} {j : Nat} {k wh : Int32} (hj : j < 16) (h : k.toInt < 0 ∨ ((σ.1 j).length : Int) ≤ k.toInt) : sTerm σ (nI j) k wh = 0 := by
  rw [sTerm, ri_some hj]; simp only []; rw [if_neg (by omega)]
theorem sTerm_w {σ : St} {j : Nat} {k wh : Int32} (hj : j < 16) (h : wh.toInt < -1 ∨ 15 < wh.toInt) : sTerm σ (nI j) k wh = 0 := by
  rw [sTerm, ri_some hj]; simp only []
  split
  · rw [if_neg (fun e => by rw [e, m1_toInt] at h; omega)]
    have : ri wh = none := by rw [ri, if_neg (by omega)]
    rw [this]
  · rfl
def hO (f1 f2 f3 f4 : Nat → Int32) (t k : Nat) : Int32 := if k = 0 then f1 t else if k = 1 then f2 t else if k = 2 then f3 t else f4 t

set_option maxHeartbeats 4000000 in
set_option maxRecDepth 100000 in
theorem kX3_constant {l : Launch} {G : Gx} {B : Nat} {w : Wm} {n : Nat} (M : Nat) (x v : Int32) (σ : St) (hs : ModS G w M σ) : Met l yX3_constant (wsM yX3_constant cX3_constant 3 (some .int)) ({ frames := 4, cells := 0, slots := 0, locals := 97 } : Room) (Pcx G B w n [.ref (M), .int (x), .int (v)]) (Qi G B (fun r w' n' => n' = n ∧ (∀ b, (b < M ∨ M + 13 ≤ b) → w' b = w b) ∧ r = (sConst σ x v).1 ∧ ModS G w' M (sConst σ x v).2)) 0 0 (FA B) := by
  refine en (by decide) (Nat.le_of_ble_eq_true rfl) ?_
  intro p ev s mm ag bl mt cde S hr hlk hnm hK H hH ls hl
  have hl : lv_has ls 3 [(0, .ref (M)), (1, .int (x)), (2, .int (v))] := hl
  obtain ⟨Sl, cnt, big, ma, gc, gh, gl, fc, fh, fl, nu, f1, f2, f3, f4, m0, m1, m2, m3, m4, m5, m6, m7, m8, mz9, m10, m11, m12, hsl, hmi⟩ := hs
  obtain ⟨hrl, hhl, hhc, hpc, hpt⟩ := id hmi
  obtain ⟨z, hz1, hz2, rfl⟩ := iI_of v
  have hF : ∀ b, b < M ∨ M + 13 ≤ b → w b = w b := fun _ _ => rfl
  refine lv_iload_n S.1 S.2.1 dX3_constant_0 rfl (lv_at hl 1 rfl) ?_
  refine ck_ip (run_S (As := [.int (x)]) (rest := []) S hK hH (kX3_is x) ceX3_is mW350 rfl hl.1 rfl (Nat.le_of_ble_eq_true rfl) dX3_constant_1 ⟨rfl, rfl, by decide, by decide⟩ ⟨show 0 + 0 ≤ 0 by omega, show 0 + 0 ≤ 0 by omega⟩) hH (fun r1 H locs hp hH => ?_)
  have hq1 : Hid _ := hp
  clear hp
  refine lv_if_ne (tgt := 9) S.1 S.2.1 dX3_constant_4 (by decide) (fun c4 => ?_) (fun c4 => ?_)
  · skip
    rcases hq1 with ⟨_, j, hj0, rfl⟩ | ⟨e, _⟩
    rotate_left
    · exact absurd e c4
    refine lv_aload_n S.1 S.2.1 dX3_constant_9 rfl (lv_at hl 0 rfl) ?_
    refine lv_iload_n S.1 S.2.1 dX3_constant_10 rfl (lv_at hl 1 rfl) ?_
    refine lv_iload_n S.1 S.2.1 dX3_constant_11 rfl (lv_at hl 2 rfl) ?_
    refine lv_i2l (v := lI (z)) S.1 S.2.1 dX3_constant_12 (iI_l (by omega)) ?_
    refine ck_i (run_V (As := [.int (nI j), .long (lI (z))]) (rest := []) S hK hH (kX3_whole M (j) (z) Sl (nI (σ.2.2.1)) (nI (σ.2.2.2.2.2)) cnt big ma gc gh gl fc fh fl m0 m1 m2 m3 m4 m10 m11 m12 (by omega) hsl (by omega)) ceX3_whole mW353 m0 rfl rfl hl.1 rfl (Nat.le_of_ble_eq_true rfl) dX3_constant_13 ⟨rfl, rfl, by decide, by decide⟩ ⟨show 0 + 0 ≤ 0 by omega, show 0 + 0 ≤ 0 by omega⟩) hH (fun r13 w2 n2 H locs hp hH => ?_)
    obtain ⟨hn1, hfr, ⟨cnt, big, fc, fh, fl, ma, gc, gh, gl, m0, m10, m11, m12, m1, m2, m3, m4, hq5⟩⟩ := hp
    rw [hn1] at hH
    replace hq5 : Hid _ := hq5
    replace m5 := (hfr (M + 5) (by omega)).trans m5
    replace m6 := (hfr (M + 6) (by omega)).trans m6
    replace m7 := (hfr (M + 7) (by omega)).trans m7
    replace m8 := (hfr (M + 8) (by omega)).trans m8
    replace mz9 := (hfr (M + 9) (by omega)).trans mz9
    replace hF : ∀ b, b < M ∨ M + 13 ≤ b → w2 b = w b := fun b hb => (hfr b (by omega)).trans (hF b hb)
    refine lv_if_eq (tgt := 28) S.1 S.2.1 dX3_constant_16 (by decide) (fun c16 => ?_) (fun c16 => ?_)
    · skip
      rcases hq5 with ⟨e, _⟩ | ⟨_, e1, hsl⟩
      · rw [e] at c16; exact absurd c16 (by decide)
      refine lv_bipush (v := (-2)) S.1 S.2.1 dX3_constant_28 (by decide) ?_
      have e2 := one_none e1
      exact rt_i S hr hlk hH dX3_constant_30 (⟨rfl, hF, by rw [sConst_big hj0 ⟨hz1, hz2⟩ (by omega)], by rw [sConst_big hj0 ⟨hz1, hz2⟩ (by omega)]; exact ⟨_, _, _, _, _, _, _, _, _, _, _, _, _, _, _, m0, m1, m2, m3, m4, m5, m6, m7, m8, mz9, m10, m11, m12, hsl, hmi⟩⟩)
    · skip
      rcases hq5 with ⟨_, K, e1, hsl⟩ | ⟨e, _⟩
      rotate_left
      · exact absurd e c16
      refine lv_aload_n S.1 S.2.1 dX3_constant_19 rfl (lv_at hl 0 rfl) ?_
      refine gfX3_9 S hK hH m0 dX3_constant_20 ?_
      refine lv_iload_n S.1 S.2.1 dX3_constant_23 rfl (lv_at hl 1 rfl) ?_
      refine ald_i S hK hH m1 (by omega) (by omega) dX3_constant_24 ?_
      refine tpi (x' := nI (K.length)) (by have := (hsl j (by omega)).2.1; rw [va_up_self] at this; exact this) ?_
      refine lv_goto (tgt := 30) S.1 S.2.1 dX3_constant_25 (by decide) ?_
      obtain ⟨rfl, e2⟩ := one_some e1
      exact rt_i S hr hlk hH dX3_constant_30 (⟨rfl, hF, by rw [sConst_ok hj0 ⟨hz1, hz2⟩ (by omega)], by rw [sConst_ok hj0 ⟨hz1, hz2⟩ (by omega)]; exact ⟨_, _, _, _, _, _, _, _, _, _, _, _, _, _, _, m0, m1, m2, m3, m4, m5, m6, m7, m8, mz9, m10, m11, m12, hsl, reg_I hmi hj0⟩⟩)
  · skip
    rcases hq1 with ⟨e, _⟩ | ⟨_, hb⟩
    · rw [e] at c4; exact absurd c4 (by decide)
    refine lv_iconst (v := (-1)) S.1 S.2.1 dX3_constant_7 (by decide) ?_
    exact rt_i S hr hlk hH dX3_constant_8 (⟨rfl, hF, by rw [sConst_bad (ri_none hb)], by rw [sConst_bad (ri_none hb)]; exact ⟨_, _, _, _, _, _, _, _, _, _, _, _, _, _, _, m0, m1, m2, m3, m4, m5, m6, m7, m8, mz9, m10, m11, m12, hsl, hmi⟩⟩)

set_option maxHeartbeats 4000000 in
set_option maxRecDepth 100000 in
theorem kX3_symbol {l : Launch} {G : Gx} {B : Nat} {w : Wm} {n : Nat} (M : Nat) (x v : Int32) (σ : St) (hs : ModS G w M σ) : Met l yX3_symbol (wsM yX3_symbol cX3_symbol 3 (some .int)) ({ frames := 3, cells := 0, slots := 0, locals := 74 } : Room) (Pcx G B w n [.ref (M), .int (x), .int (v)]) (Qi G B (fun r w' n' => n' = n ∧ (∀ b, (b < M ∨ M + 13 ≤ b) → w' b = w b) ∧ r = (sSym σ x v).1 ∧ ModS G w' M (sSym σ x v).2)) 0 0 (FA B) := by
  refine en (by decide) (Nat.le_of_ble_eq_true rfl) ?_
  intro p ev s mm ag bl mt cde S hr hlk hnm hK H hH ls hl
  have hl : lv_has ls 3 [(0, .ref (M)), (1, .int (x)), (2, .int (v))] := hl
  obtain ⟨Sl, cnt, big, ma, gc, gh, gl, fc, fh, fl, nu, f1, f2, f3, f4, m0, m1, m2, m3, m4, m5, m6, m7, m8, mz9, m10, m11, m12, hsl, hmi⟩ := hs
  obtain ⟨hrl, hhl, hhc, hpc, hpt⟩ := id hmi
  have hF : ∀ b, b < M ∨ M + 13 ≤ b → w b = w b := fun _ _ => rfl
  refine lv_iload_n S.1 S.2.1 dX3_symbol_0 rfl (lv_at hl 1 rfl) ?_
  refine ck_ip (run_S (As := [.int (x)]) (rest := []) S hK hH (kX3_is x) ceX3_is mW350 rfl hl.1 rfl (Nat.le_of_ble_eq_true rfl) dX3_symbol_1 ⟨rfl, rfl, by decide, by decide⟩ ⟨show 0 + 0 ≤ 0 by omega, show 0 + 0 ≤ 0 by omega⟩) hH (fun r1 H locs hp hH => ?_)
  have hq1 : Hid _ := hp
  clear hp
  refine lv_if_eq (tgt := 14) S.1 S.2.1 dX3_symbol_4 (by decide) (fun c4 => ?_) (fun c4 => ?_)
  · skip
    rcases hq1 with ⟨e, _⟩ | ⟨_, hb⟩
    · rw [e] at c4; exact absurd c4 (by decide)
    refine lv_iconst (v := (-1)) S.1 S.2.1 dX3_symbol_14 (by decide) ?_
    exact rt_i S hr hlk hH dX3_symbol_15 (⟨rfl, hF, by rw [sSym_bad (Or.inl (ri_none hb))], by rw [sSym_bad (Or.inl (ri_none hb))]; exact ⟨_, _, _, _, _, _, _, _, _, _, _, _, _, _, _, m0, m1, m2, m3, m4, m5, m6, m7, m8, mz9, m10, m11, m12, hsl, hmi⟩⟩)
  · skip
    rcases hq1 with ⟨_, j, hj0, rfl⟩ | ⟨e, _⟩
    rotate_left
    · exact absurd e c4
    refine lv_iload_n S.1 S.2.1 dX3_symbol_7 rfl (lv_at hl 2 rfl) ?_
    refine ck_ip (run_S (As := [.int (v)]) (rest := []) S hK hH (kX3_is v) ceX3_is mW350 rfl hl.1 rfl (Nat.le_of_ble_eq_true rfl) dX3_symbol_8 ⟨rfl, rfl, by decide, by decide⟩ ⟨show 0 + 0 ≤ 0 by omega, show 0 + 0 ≤ 0 by omega⟩) hH (fun r8 H locs hp hH => ?_)
    have hq2 : Hid _ := hp
    clear hp
    refine lv_if_ne (tgt := 16) S.1 S.2.1 dX3_symbol_11 (by decide) (fun c11 => ?_) (fun c11 => ?_)
    · skip
      rcases hq2 with ⟨_, t, ht0, rfl⟩ | ⟨e, _⟩
      rotate_left
      · exact absurd e c11
      refine lv_aload_n S.1 S.2.1 dX3_symbol_16 rfl (lv_at hl 0 rfl) ?_
      refine ck_v (run_V (As := []) (rest := []) S hK hH (kX3_begin M (nI (σ.2.2.1)) (nI (σ.2.2.2.2.2)) cnt big m0) ceX3_begin mW357 m0 rfl rfl hl.1 rfl (Nat.le_of_ble_eq_true rfl) dX3_symbol_17 ⟨rfl, rfl, by decide, by decide⟩ ⟨show 0 + 0 ≤ 0 by omega, show 0 + 0 ≤ 0 by omega⟩) hH (fun w3 n3 H locs hp hH => ?_)
      obtain ⟨hn1, hfr, m0⟩ := hp
      rw [hn1] at hH
      replace m1 := (hfr (M + 1) (by omega)).trans m1
      replace m2 := (hfr (M + 2) (by omega)).trans m2
      replace m3 := (hfr (M + 3) (by omega)).trans m3
      replace m4 := (hfr (M + 4) (by omega)).trans m4
      replace m5 := (hfr (M + 5) (by omega)).trans m5
      replace m6 := (hfr (M + 6) (by omega)).trans m6
      replace m7 := (hfr (M + 7) (by omega)).trans m7
      replace m8 := (hfr (M + 8) (by omega)).trans m8
      replace mz9 := (hfr (M + 9) (by omega)).trans mz9
      replace m10 := (hfr (M + 10) (by omega)).trans m10
      replace m11 := (hfr (M + 11) (by omega)).trans m11
      replace m12 := (hfr (M + 12) (by omega)).trans m12
      replace hF : ∀ b, b < M ∨ M + 13 ≤ b → w3 b = w b := fun b hb => (hfr b (by omega)).trans (hF b hb)
      refine lv_aload_n S.1 S.2.1 dX3_symbol_20 rfl (lv_at hl 0 rfl) ?_
      refine lv_lconst (v := lI 1) S.1 S.2.1 dX3_symbol_21 (by decide) ?_
      refine lv_iload_n S.1 S.2.1 dX3_symbol_22 rfl (lv_at hl 2 rfl) ?_
      refine lv_bipush (v := nI 8) S.1 S.2.1 dX3_symbol_23 (by decide) ?_
      refine bn_ge (tgt := 40) S dX3_symbol_25 (by decide) (by omega) (fun c25 => ?_) (fun c25 => ?_)
      · skip
        refine lv_lconst (v := lI 0) S.1 S.2.1 dX3_symbol_40 (by decide) ?_
        refine tpl (x' := lN (hiC (scode t))) (sym_h0 c25 ht0) ?_
        refine lv_iload_n S.1 S.2.1 dX3_symbol_41 rfl (lv_at hl 2 rfl) ?_
        refine lv_bipush (v := nI 8) S.1 S.2.1 dX3_symbol_42 (by decide) ?_
        refine bn_ge (tgt := 51) S dX3_symbol_44 (by decide) (by omega) (fun c44 => ?_) (fun c44 => ?_)
        · skip
          refine lv_lconst (v := lI 1) S.1 S.2.1 dX3_symbol_51 (by decide) ?_
          refine lv_bipush (v := nI 56) S.1 S.2.1 dX3_symbol_52 (by decide) ?_
          refine lv_bipush (v := nI 8) S.1 S.2.1 dX3_symbol_54 (by decide) ?_
          refine lv_iload_n S.1 S.2.1 dX3_symbol_56 rfl (lv_at hl 2 rfl) ?_
          refine lv_bipush (v := nI 8) S.1 S.2.1 dX3_symbol_57 (by decide) ?_
          refine lv_isub S.1 S.2.1 dX3_symbol_59 ?_
          refine tpi (x' := nI (t - 8)) (pk_sub (by omega)) ?_
          refine lv_imul S.1 S.2.1 dX3_symbol_60 ?_
          refine tpi (x' := nI (8 * (t - 8))) (pk_mul _ _) ?_
          refine lv_isub S.1 S.2.1 dX3_symbol_61 ?_
          refine tpi (x' := nI (56 - (8 * (t - 8)))) (pk_sub (by omega)) ?_
          refine lv_lshl (v := lN (loC (scode t))) S.1 S.2.1 dX3_symbol_62 (sym_l c25 ht0) ?_
          refine ck_v (run_V (As := [.long (lI 1), .long (lN (hiC (scode t))), .long (lN (loC (scode t)))]) (rest := []) S hK hH (kX3_add M 0 (lI 1) (lN (hiC (scode t))) (lN (loC (scode t))) (nI (σ.2.2.1)) (nI (σ.2.2.2.2.2)) (nI 0) fc fh fl m0 m10 m11 m12 (by omega)) ceX3_add mW361 m0 rfl rfl hl.1 rfl (Nat.le_of_ble_eq_true rfl) dX3_symbol_63 ⟨rfl, rfl, by decide, by decide⟩ ⟨show 0 + 0 ≤ 0 by omega, show 0 + 0 ≤ 0 by omega⟩) hH (fun w4 n4 H locs hp hH => ?_)
          obtain ⟨hn1, hfr, hq9⟩ := hp
          rw [hn1] at hH
          replace hq9 : Hid _ := hq9
          obtain ⟨m9, fc, fh, fl, hm9, m0, m10, m11, m12, har9⟩ := add_post hq9
          replace m1 := (hfr (M + 1) (by omega)).trans m1
          replace m2 := (hfr (M + 2) (by omega)).trans m2
          replace m3 := (hfr (M + 3) (by omega)).trans m3
          replace m4 := (hfr (M + 4) (by omega)).trans m4
          replace m5 := (hfr (M + 5) (by omega)).trans m5
          replace m6 := (hfr (M + 6) (by omega)).trans m6
          replace m7 := (hfr (M + 7) (by omega)).trans m7
          replace m8 := (hfr (M + 8) (by omega)).trans m8
          replace mz9 := (hfr (M + 9) (by omega)).trans mz9
          replace hF : ∀ b, b < M ∨ M + 13 ≤ b → w4 b = w b := fun b hb => (hfr b (by omega)).trans (hF b hb)
          refine lv_aload_n S.1 S.2.1 dX3_symbol_66 rfl (lv_at hl 0 rfl) ?_
          refine lv_iload_n S.1 S.2.1 dX3_symbol_67 rfl (lv_at hl 1 rfl) ?_
          refine ck_i (run_V (As := [.int (nI j)]) (rest := []) S hK hH (kX3_to M j m9 (fup (fun _ => 0) (scode t) 1) [(scode t, 1)] Sl (nI (σ.2.2.1)) (nI (σ.2.2.2.2.2)) (nI 0) ma gc gh gl fc fh fl m0 m1 m2 m3 m4 m10 m11 m12 (by omega) (by omega) hsl (fun _ => sym_A (har9 _ _ _ ar_0 (vC_s t ht0) rfl rfl rfl (by omega)) (vC_s t ht0))) ceX3_to mW365 m0 rfl rfl hl.1 rfl (Nat.le_of_ble_eq_true rfl) dX3_symbol_68 ⟨rfl, rfl, by decide, by decide⟩ ⟨show 0 + 0 ≤ 0 by omega, show 0 + 0 ≤ 0 by omega⟩) hH (fun r68 w5 n5 H locs hp hH => ?_)
          obtain ⟨hn1, hfr, ⟨⟨cnt9, fc, fh, fl, m0, m10, m11, m12⟩, ma, gc, gh, gl, m1, m2, m3, m4, hq5⟩⟩ := hp
          rw [hn1] at hH
          replace hq5 : Hid _ := hq5
          replace m5 := (hfr (M + 5) (by omega)).trans m5
          replace m6 := (hfr (M + 6) (by omega)).trans m6
          replace m7 := (hfr (M + 7) (by omega)).trans m7
          replace m8 := (hfr (M + 8) (by omega)).trans m8
          replace mz9 := (hfr (M + 9) (by omega)).trans mz9
          replace hF : ∀ b, b < M ∨ M + 13 ≤ b → w5 b = w b := fun b hb => (hfr b (by omega)).trans (hF b hb)
          refine lv_pop S.1 S.2.1 dX3_symbol_71 rfl ?_
          refine lv_iconst (v := nI 1) S.1 S.2.1 dX3_symbol_72 (by decide) ?_
          have hsl := sym_Q hq5
          exact rt_i S hr hlk hH dX3_symbol_73 (⟨rfl, hF, by rw [sSym_ok hj0 ht0]; rfl, by rw [sSym_ok hj0 ht0]; exact ⟨_, _, _, _, _, _, _, _, _, _, _, _, _, _, _, m0, m1, m2, m3, m4, m5, m6, m7, m8, mz9, m10, m11, m12, hsl, reg_I hmi hj0⟩⟩)
        · skip
          exfalso; omega
      · skip
        refine lv_lconst (v := lI 1) S.1 S.2.1 dX3_symbol_28 (by decide) ?_
        refine lv_bipush (v := nI 56) S.1 S.2.1 dX3_symbol_29 (by decide) ?_
        refine lv_bipush (v := nI 8) S.1 S.2.1 dX3_symbol_31 (by decide) ?_
        refine lv_iload_n S.1 S.2.1 dX3_symbol_33 rfl (lv_at hl 2 rfl) ?_
        refine lv_imul S.1 S.2.1 dX3_symbol_34 ?_
        refine tpi (x' := nI (8 * t)) (pk_mul _ _) ?_
        refine lv_isub S.1 S.2.1 dX3_symbol_35 ?_
        refine tpi (x' := nI (56 - (8 * t))) (pk_sub (by omega)) ?_
        refine lv_lshl (v := lN (hiC (scode t))) S.1 S.2.1 dX3_symbol_36 (sym_h c25) ?_
        refine lv_goto (tgt := 41) S.1 S.2.1 dX3_symbol_37 (by decide) ?_
        refine lv_iload_n S.1 S.2.1 dX3_symbol_41 rfl (lv_at hl 2 rfl) ?_
        refine lv_bipush (v := nI 8) S.1 S.2.1 dX3_symbol_42 (by decide) ?_
        refine bn_ge (tgt := 51) S dX3_symbol_44 (by decide) (by omega) (fun c44 => ?_) (fun c44 => ?_)
        · skip
          exfalso; omega
        · skip
          refine lv_lconst (v := lI 0) S.1 S.2.1 dX3_symbol_47 (by decide) ?_
          refine tpl (x' := lN (loC (scode t))) (sym_l0 c25) ?_
          refine lv_goto (tgt := 63) S.1 S.2.1 dX3_symbol_48 (by decide) ?_
          refine ck_v (run_V (As := [.long (lI 1), .long (lN (hiC (scode t))), .long (lN (loC (scode t)))]) (rest := []) S hK hH (kX3_add M 0 (lI 1) (lN (hiC (scode t))) (lN (loC (scode t))) (nI (σ.2.2.1)) (nI (σ.2.2.2.2.2)) (nI 0) fc fh fl m0 m10 m11 m12 (by omega)) ceX3_add mW361 m0 rfl rfl hl.1 rfl (Nat.le_of_ble_eq_true rfl) dX3_symbol_63 ⟨rfl, rfl, by decide, by decide⟩ ⟨show 0 + 0 ≤ 0 by omega, show 0 + 0 ≤ 0 by omega⟩) hH (fun w6 n6 H locs hp hH => ?_)
          obtain ⟨hn1, hfr, hq9⟩ := hp
          rw [hn1] at hH
          replace hq9 : Hid _ := hq9
          obtain ⟨m9, fc, fh, fl, hm9, m0, m10, m11, m12, har9⟩ := add_post hq9
          replace m1 := (hfr (M + 1) (by omega)).trans m1
          replace m2 := (hfr (M + 2) (by omega)).trans m2
          replace m3 := (hfr (M + 3) (by omega)).trans m3
          replace m4 := (hfr (M + 4) (by omega)).trans m4
          replace m5 := (hfr (M + 5) (by omega)).trans m5
          replace m6 := (hfr (M + 6) (by omega)).trans m6
          replace m7 := (hfr (M + 7) (by omega)).trans m7
          replace m8 := (hfr (M + 8) (by omega)).trans m8
          replace mz9 := (hfr (M + 9) (by omega)).trans mz9
          replace hF : ∀ b, b < M ∨ M + 13 ≤ b → w6 b = w b := fun b hb => (hfr b (by omega)).trans (hF b hb)
          refine lv_aload_n S.1 S.2.1 dX3_symbol_66 rfl (lv_at hl 0 rfl) ?_
          refine lv_iload_n S.1 S.2.1 dX3_symbol_67 rfl (lv_at hl 1 rfl) ?_
          refine ck_i (run_V (As := [.int (nI j)]) (rest := []) S hK hH (kX3_to M j m9 (fup (fun _ => 0) (scode t) 1) [(scode t, 1)] Sl (nI (σ.2.2.1)) (nI (σ.2.2.2.2.2)) (nI 0) ma gc gh gl fc fh fl m0 m1 m2 m3 m4 m10 m11 m12 (by omega) (by omega) hsl (fun _ => sym_A (har9 _ _ _ ar_0 (vC_s t ht0) rfl rfl rfl (by omega)) (vC_s t ht0))) ceX3_to mW365 m0 rfl rfl hl.1 rfl (Nat.le_of_ble_eq_true rfl) dX3_symbol_68 ⟨rfl, rfl, by decide, by decide⟩ ⟨show 0 + 0 ≤ 0 by omega, show 0 + 0 ≤ 0 by omega⟩) hH (fun r68 w7 n7 H locs hp hH => ?_)
          obtain ⟨hn1, hfr, ⟨⟨cnt9, fc, fh, fl, m0, m10, m11, m12⟩, ma, gc, gh, gl, m1, m2, m3, m4, hq5⟩⟩ := hp
          rw [hn1] at hH
          replace hq5 : Hid _ := hq5
          replace m5 := (hfr (M + 5) (by omega)).trans m5
          replace m6 := (hfr (M + 6) (by omega)).trans m6
          replace m7 := (hfr (M + 7) (by omega)).trans m7
          replace m8 := (hfr (M + 8) (by omega)).trans m8
          replace mz9 := (hfr (M + 9) (by omega)).trans mz9
          replace hF : ∀ b, b < M ∨ M + 13 ≤ b → w7 b = w b := fun b hb => (hfr b (by omega)).trans (hF b hb)
          refine lv_pop S.1 S.2.1 dX3_symbol_71 rfl ?_
          refine lv_iconst (v := nI 1) S.1 S.2.1 dX3_symbol_72 (by decide) ?_
          have hsl := sym_Q hq5
          exact rt_i S hr hlk hH dX3_symbol_73 (⟨rfl, hF, by rw [sSym_ok hj0 ht0]; rfl, by rw [sSym_ok hj0 ht0]; exact ⟨_, _, _, _, _, _, _, _, _, _, _, _, _, _, _, m0, m1, m2, m3, m4, m5, m6, m7, m8, mz9, m10, m11, m12, hsl, reg_I hmi hj0⟩⟩)
    · skip
      rcases hq2 with ⟨e, _⟩ | ⟨_, hb⟩
      · rw [e] at c11; exact absurd c11 (by decide)
      refine lv_iconst (v := (-1)) S.1 S.2.1 dX3_symbol_14 (by decide) ?_
      exact rt_i S hr hlk hH dX3_symbol_15 (⟨rfl, hF, by rw [sSym_bad (Or.inr (ri_none hb))], by rw [sSym_bad (Or.inr (ri_none hb))]; exact ⟨_, _, _, _, _, _, _, _, _, _, _, _, _, _, _, m0, m1, m2, m3, m4, m5, m6, m7, m8, mz9, m10, m11, m12, hsl, hmi⟩⟩)

set_option maxHeartbeats 4000000 in
set_option maxRecDepth 100000 in
theorem kX3_plus {l : Launch} {G : Gx} {B : Nat} {w : Wm} {n : Nat} (M : Nat) (x a b : Int32) (σ : St) (hs : ModS G w M σ) : Met l yX3_plus (wsM yX3_plus cX3_plus 4 (some .int)) ({ frames := 4, cells := 0, slots := 0, locals := 99 } : Room) (Pcx G B w n [.ref (M), .int (x), .int (a), .int (b)]) (Qi G B (fun r w' n' => n' = n ∧ (∀ b, (b < M ∨ M + 13 ≤ b) → w' b = w b) ∧ r = (sComb 1 σ x a b).1 ∧ ModS G w' M (sComb 1 σ x a b).2)) 0 0 (FA B) := by
  refine en (by decide) (Nat.le_of_ble_eq_true rfl) ?_
  intro p ev s mm ag bl mt cde S hr hlk hnm hK H hH ls hl
  have hl : lv_has ls 4 [(0, .ref (M)), (1, .int (x)), (2, .int (a)), (3, .int (b))] := hl
  obtain ⟨Sl, cnt, big, ma, gc, gh, gl, fc, fh, fl, nu, f1, f2, f3, f4, m0, m1, m2, m3, m4, m5, m6, m7, m8, mz9, m10, m11, m12, hsl, hmi⟩ := hs
  obtain ⟨hrl, hhl, hhc, hpc, hpt⟩ := id hmi
  have hF : ∀ b, b < M ∨ M + 13 ≤ b → w b = w b := fun _ _ => rfl
  refine lv_iload_n S.1 S.2.1 dX3_plus_0 rfl (lv_at hl 1 rfl) ?_
  refine ck_ip (run_S (As := [.int (x)]) (rest := []) S hK hH (kX3_is x) ceX3_is mW350 rfl hl.1 rfl (Nat.le_of_ble_eq_true rfl) dX3_plus_1 ⟨rfl, rfl, by decide, by decide⟩ ⟨show 0 + 0 ≤ 0 by omega, show 0 + 0 ≤ 0 by omega⟩) hH (fun r1 H locs hp hH => ?_)
  have hq1 : Hid _ := hp
  clear hp
  refine lv_if_eq (tgt := 21) S.1 S.2.1 dX3_plus_4 (by decide) (fun c4 => ?_) (fun c4 => ?_)
  · skip
    rcases hq1 with ⟨e, _⟩ | ⟨_, hb⟩
    · rw [e] at c4; exact absurd c4 (by decide)
    refine lv_iconst (v := (-1)) S.1 S.2.1 dX3_plus_21 (by decide) ?_
    exact rt_i S hr hlk hH dX3_plus_22 (⟨rfl, hF, by rw [sComb_bad (Or.inl (ri_none hb))], by rw [sComb_bad (Or.inl (ri_none hb))]; exact ⟨_, _, _, _, _, _, _, _, _, _, _, _, _, _, _, m0, m1, m2, m3, m4, m5, m6, m7, m8, mz9, m10, m11, m12, hsl, hmi⟩⟩)
  · skip
    rcases hq1 with ⟨_, j, hj0, rfl⟩ | ⟨e, _⟩
    rotate_left
    · exact absurd e c4
    refine lv_iload_n S.1 S.2.1 dX3_plus_7 rfl (lv_at hl 2 rfl) ?_
    refine ck_ip (run_S (As := [.int (a)]) (rest := []) S hK hH (kX3_is a) ceX3_is mW350 rfl hl.1 rfl (Nat.le_of_ble_eq_true rfl) dX3_plus_8 ⟨rfl, rfl, by decide, by decide⟩ ⟨show 0 + 0 ≤ 0 by omega, show 0 + 0 ≤ 0 by omega⟩) hH (fun r8 H locs hp hH => ?_)
    have hq2 : Hid _ := hp
    clear hp
    refine lv_if_eq (tgt := 21) S.1 S.2.1 dX3_plus_11 (by decide) (fun c11 => ?_) (fun c11 => ?_)
    · skip
      rcases hq2 with ⟨e, _⟩ | ⟨_, hb⟩
      · rw [e] at c11; exact absurd c11 (by decide)
      refine lv_iconst (v := (-1)) S.1 S.2.1 dX3_plus_21 (by decide) ?_
      exact rt_i S hr hlk hH dX3_plus_22 (⟨rfl, hF, by rw [sComb_bad (Or.inr (Or.inl (ri_none hb)))], by rw [sComb_bad (Or.inr (Or.inl (ri_none hb)))]; exact ⟨_, _, _, _, _, _, _, _, _, _, _, _, _, _, _, m0, m1, m2, m3, m4, m5, m6, m7, m8, mz9, m10, m11, m12, hsl, hmi⟩⟩)
    · skip
      rcases hq2 with ⟨_, p1, hp0, rfl⟩ | ⟨e, _⟩
      rotate_left
      · exact absurd e c11
      refine lv_iload_n S.1 S.2.1 dX3_plus_14 rfl (lv_at hl 3 rfl) ?_
      refine ck_ip (run_S (As := [.int (b)]) (rest := []) S hK hH (kX3_is b) ceX3_is mW350 rfl hl.1 rfl (Nat.le_of_ble_eq_true rfl) dX3_plus_15 ⟨rfl, rfl, by decide, by decide⟩ ⟨show 0 + 0 ≤ 0 by omega, show 0 + 0 ≤ 0 by omega⟩) hH (fun r15 H locs hp hH => ?_)
      have hq3 : Hid _ := hp
      clear hp
      refine lv_if_ne (tgt := 23) S.1 S.2.1 dX3_plus_18 (by decide) (fun c18 => ?_) (fun c18 => ?_)
      · skip
        rcases hq3 with ⟨_, q1, hq0, rfl⟩ | ⟨e, _⟩
        rotate_left
        · exact absurd e c18
        refine lv_aload_n S.1 S.2.1 dX3_plus_23 rfl (lv_at hl 0 rfl) ?_
        refine lv_iload_n S.1 S.2.1 dX3_plus_24 rfl (lv_at hl 1 rfl) ?_
        refine lv_iload_n S.1 S.2.1 dX3_plus_25 rfl (lv_at hl 2 rfl) ?_
        refine lv_iload_n S.1 S.2.1 dX3_plus_26 rfl (lv_at hl 3 rfl) ?_
        refine lv_lconst (v := lI 1) S.1 S.2.1 dX3_plus_27 (by decide) ?_
        refine ck_i (run_V (As := [.int (nI j), .int (nI p1), .int (nI q1), .long (lI 1)]) (rest := []) S hK hH (kX3_sum M (j) (p1) (q1) (1) Sl (nI (σ.2.2.1)) (nI (σ.2.2.2.2.2)) cnt big ma gc gh gl fc fh fl m0 m1 m2 m3 m4 m10 m11 m12 (by omega) (by omega) (by omega) hsl (Or.inl rfl)) ceX3_sum mW391 m0 rfl rfl hl.1 rfl (Nat.le_of_ble_eq_true rfl) dX3_plus_28 ⟨rfl, rfl, by decide, by decide⟩ ⟨show 0 + 0 ≤ 0 by omega, show 0 + 0 ≤ 0 by omega⟩) hH (fun r28 w4 n4 H locs hp hH => ?_)
        obtain ⟨hn1, hfr, ⟨cnt, big, fc, fh, fl, ma, gc, gh, gl, m0, m10, m11, m12, m1, m2, m3, m4, hq5⟩⟩ := hp
        rw [hn1] at hH
        replace hq5 : Hid _ := hq5
        replace m5 := (hfr (M + 5) (by omega)).trans m5
        replace m6 := (hfr (M + 6) (by omega)).trans m6
        replace m7 := (hfr (M + 7) (by omega)).trans m7
        replace m8 := (hfr (M + 8) (by omega)).trans m8
        replace mz9 := (hfr (M + 9) (by omega)).trans mz9
        replace hF : ∀ b, b < M ∨ M + 13 ≤ b → w4 b = w b := fun b hb => (hfr b (by omega)).trans (hF b hb)
        refine lv_if_eq (tgt := 43) S.1 S.2.1 dX3_plus_31 (by decide) (fun c31 => ?_) (fun c31 => ?_)
        · skip
          rcases hq5 with ⟨e, _⟩ | ⟨_, e1, hsl⟩
          · rw [e] at c31; exact absurd c31 (by decide)
          refine lv_bipush (v := (-2)) S.1 S.2.1 dX3_plus_43 (by decide) ?_
          rw [hrl p1 hp0, hrl q1 hq0] at e1
          exact rt_i S hr hlk hH dX3_plus_45 (⟨rfl, hF, by rw [sComb_none hj0 hp0 hq0 e1], by rw [sComb_none hj0 hp0 hq0 e1]; exact ⟨_, _, _, _, _, _, _, _, _, _, _, _, _, _, _, m0, m1, m2, m3, m4, m5, m6, m7, m8, mz9, m10, m11, m12, hsl, hmi⟩⟩)
        · skip
          rcases hq5 with ⟨_, K, e1, hsl⟩ | ⟨e, _⟩
          rotate_left
          · exact absurd e c31
          refine lv_aload_n S.1 S.2.1 dX3_plus_34 rfl (lv_at hl 0 rfl) ?_
          refine gfX3_9 S hK hH m0 dX3_plus_35 ?_
          refine lv_iload_n S.1 S.2.1 dX3_plus_38 rfl (lv_at hl 1 rfl) ?_
          refine ald_i S hK hH m1 (by omega) (by omega) dX3_plus_39 ?_
          refine tpi (x' := nI (K.length)) (by have := (hsl j (by omega)).2.1; rw [va_up_self] at this; exact this) ?_
          refine lv_goto (tgt := 45) S.1 S.2.1 dX3_plus_40 (by decide) ?_
          rw [hrl p1 hp0, hrl q1 hq0] at e1
          exact rt_i S hr hlk hH dX3_plus_45 (⟨rfl, hF, by rw [sComb_some hj0 hp0 hq0 e1], by rw [sComb_some hj0 hp0 hq0 e1]; exact ⟨_, _, _, _, _, _, _, _, _, _, _, _, _, _, _, m0, m1, m2, m3, m4, m5, m6, m7, m8, mz9, m10, m11, m12, hsl, reg_I hmi hj0⟩⟩)
      · skip
        rcases hq3 with ⟨e, _⟩ | ⟨_, hb⟩
        · rw [e] at c18; exact absurd c18 (by decide)
        refine lv_iconst (v := (-1)) S.1 S.2.1 dX3_plus_21 (by decide) ?_
        exact rt_i S hr hlk hH dX3_plus_22 (⟨rfl, hF, by rw [sComb_bad (Or.inr (Or.inr (ri_none hb)))], by rw [sComb_bad (Or.inr (Or.inr (ri_none hb)))]; exact ⟨_, _, _, _, _, _, _, _, _, _, _, _, _, _, _, m0, m1, m2, m3, m4, m5, m6, m7, m8, mz9, m10, m11, m12, hsl, hmi⟩⟩)

set_option maxHeartbeats 4000000 in
set_option maxRecDepth 100000 in
theorem kX3_minus {l : Launch} {G : Gx} {B : Nat} {w : Wm} {n : Nat} (M : Nat) (x a b : Int32) (σ : St) (hs : ModS G w M σ) : Met l yX3_minus (wsM yX3_minus cX3_minus 4 (some .int)) ({ frames := 4, cells := 0, slots := 0, locals := 99 } : Room) (Pcx G B w n [.ref (M), .int (x), .int (a), .int (b)]) (Qi G B (fun r w' n' => n' = n ∧ (∀ b, (b < M ∨ M + 13 ≤ b) → w' b = w b) ∧ r = (sComb (-1) σ x a b).1 ∧ ModS G w' M (sComb (-1) σ x a b).2)) 0 0 (FA B) := by
  refine en (by decide) (Nat.le_of_ble_eq_true rfl) ?_
  intro p ev s mm ag bl mt cde S hr hlk hnm hK H hH ls hl
  have hl : lv_has ls 4 [(0, .ref (M)), (1, .int (x)), (2, .int (a)), (3, .int (b))] := hl
  obtain ⟨Sl, cnt, big, ma, gc, gh, gl, fc, fh, fl, nu, f1, f2, f3, f4, m0, m1, m2, m3, m4, m5, m6, m7, m8, mz9, m10, m11, m12, hsl, hmi⟩ := hs
  obtain ⟨hrl, hhl, hhc, hpc, hpt⟩ := id hmi
  have hF : ∀ b, b < M ∨ M + 13 ≤ b → w b = w b := fun _ _ => rfl
  refine lv_iload_n S.1 S.2.1 dX3_minus_0 rfl (lv_at hl 1 rfl) ?_
  refine ck_ip (run_S (As := [.int (x)]) (rest := []) S hK hH (kX3_is x) ceX3_is mW350 rfl hl.1 rfl (Nat.le_of_ble_eq_true rfl) dX3_minus_1 ⟨rfl, rfl, by decide, by decide⟩ ⟨show 0 + 0 ≤ 0 by omega, show 0 + 0 ≤ 0 by omega⟩) hH (fun r1 H locs hp hH => ?_)
  have hq1 : Hid _ := hp
  clear hp
  refine lv_if_eq (tgt := 21) S.1 S.2.1 dX3_minus_4 (by decide) (fun c4 => ?_) (fun c4 => ?_)
  · skip
    rcases hq1 with ⟨e, _⟩ | ⟨_, hb⟩
    · rw [e] at c4; exact absurd c4 (by decide)
    refine lv_iconst (v := (-1)) S.1 S.2.1 dX3_minus_21 (by decide) ?_
    exact rt_i S hr hlk hH dX3_minus_22 (⟨rfl, hF, by rw [sComb_bad (Or.inl (ri_none hb))], by rw [sComb_bad (Or.inl (ri_none hb))]; exact ⟨_, _, _, _, _, _, _, _, _, _, _, _, _, _, _, m0, m1, m2, m3, m4, m5, m6, m7, m8, mz9, m10, m11, m12, hsl, hmi⟩⟩)
  · skip
    rcases hq1 with ⟨_, j, hj0, rfl⟩ | ⟨e, _⟩
    rotate_left
    · exact absurd e c4
    refine lv_iload_n S.1 S.2.1 dX3_minus_7 rfl (lv_at hl 2 rfl) ?_
    refine ck_ip (run_S (As := [.int (a)]) (rest := []) S hK hH (kX3_is a) ceX3_is mW350 rfl hl.1 rfl (Nat.le_of_ble_eq_true rfl) dX3_minus_8 ⟨rfl, rfl, by decide, by decide⟩ ⟨show 0 + 0 ≤ 0 by omega, show 0 + 0 ≤ 0 by omega⟩) hH (fun r8 H locs hp hH => ?_)
    have hq2 : Hid _ := hp
    clear hp
    refine lv_if_eq (tgt := 21) S.1 S.2.1 dX3_minus_11 (by decide) (fun c11 => ?_) (fun c11 => ?_)
    · skip
      rcases hq2 with ⟨e, _⟩ | ⟨_, hb⟩
      · rw [e] at c11; exact absurd c11 (by decide)
      refine lv_iconst (v := (-1)) S.1 S.2.1 dX3_minus_21 (by decide) ?_
      exact rt_i S hr hlk hH dX3_minus_22 (⟨rfl, hF, by rw [sComb_bad (Or.inr (Or.inl (ri_none hb)))], by rw [sComb_bad (Or.inr (Or.inl (ri_none hb)))]; exact ⟨_, _, _, _, _, _, _, _, _, _, _, _, _, _, _, m0, m1, m2, m3, m4, m5, m6, m7, m8, mz9, m10, m11, m12, hsl, hmi⟩⟩)
    · skip
      rcases hq2 with ⟨_, p1, hp0, rfl⟩ | ⟨e, _⟩
      rotate_left
      · exact absurd e c11
      refine lv_iload_n S.1 S.2.1 dX3_minus_14 rfl (lv_at hl 3 rfl) ?_
      refine ck_ip (run_S (As := [.int (b)]) (rest := []) S hK hH (kX3_is b) ceX3_is mW350 rfl hl.1 rfl (Nat.le_of_ble_eq_true rfl) dX3_minus_15 ⟨rfl, rfl, by decide, by decide⟩ ⟨show 0 + 0 ≤ 0 by omega, show 0 + 0 ≤ 0 by omega⟩) hH (fun r15 H locs hp hH => ?_)
      have hq3 : Hid _ := hp
      clear hp
      refine lv_if_ne (tgt := 23) S.1 S.2.1 dX3_minus_18 (by decide) (fun c18 => ?_) (fun c18 => ?_)
      · skip
        rcases hq3 with ⟨_, q1, hq0, rfl⟩ | ⟨e, _⟩
        rotate_left
        · exact absurd e c18
        refine lv_aload_n S.1 S.2.1 dX3_minus_23 rfl (lv_at hl 0 rfl) ?_
        refine lv_iload_n S.1 S.2.1 dX3_minus_24 rfl (lv_at hl 1 rfl) ?_
        refine lv_iload_n S.1 S.2.1 dX3_minus_25 rfl (lv_at hl 2 rfl) ?_
        refine lv_iload_n S.1 S.2.1 dX3_minus_26 rfl (lv_at hl 3 rfl) ?_
        refine lv_ldc2 S.1 S.2.1 S.2.2.2.1 (S.2.2.2.2 _ mW403) dX3_minus_27 ?_
        refine tpl (x' := lI (-1)) (by decide) ?_
        refine ck_i (run_V (As := [.int (nI j), .int (nI p1), .int (nI q1), .long (lI (-1))]) (rest := []) S hK hH (kX3_sum M (j) (p1) (q1) (-1) Sl (nI (σ.2.2.1)) (nI (σ.2.2.2.2.2)) cnt big ma gc gh gl fc fh fl m0 m1 m2 m3 m4 m10 m11 m12 (by omega) (by omega) (by omega) hsl (Or.inr rfl)) ceX3_sum mW391 m0 rfl rfl hl.1 rfl (Nat.le_of_ble_eq_true rfl) dX3_minus_30 ⟨rfl, rfl, by decide, by decide⟩ ⟨show 0 + 0 ≤ 0 by omega, show 0 + 0 ≤ 0 by omega⟩) hH (fun r30 w4 n4 H locs hp hH => ?_)
        obtain ⟨hn1, hfr, ⟨cnt, big, fc, fh, fl, ma, gc, gh, gl, m0, m10, m11, m12, m1, m2, m3, m4, hq5⟩⟩ := hp
        rw [hn1] at hH
        replace hq5 : Hid _ := hq5
        replace m5 := (hfr (M + 5) (by omega)).trans m5
        replace m6 := (hfr (M + 6) (by omega)).trans m6
        replace m7 := (hfr (M + 7) (by omega)).trans m7
        replace m8 := (hfr (M + 8) (by omega)).trans m8
        replace mz9 := (hfr (M + 9) (by omega)).trans mz9
        replace hF : ∀ b, b < M ∨ M + 13 ≤ b → w4 b = w b := fun b hb => (hfr b (by omega)).trans (hF b hb)
        refine lv_if_eq (tgt := 45) S.1 S.2.1 dX3_minus_33 (by decide) (fun c33 => ?_) (fun c33 => ?_)
        · skip
          rcases hq5 with ⟨e, _⟩ | ⟨_, e1, hsl⟩
          · rw [e] at c33; exact absurd c33 (by decide)
          refine lv_bipush (v := (-2)) S.1 S.2.1 dX3_minus_45 (by decide) ?_
          rw [hrl p1 hp0, hrl q1 hq0] at e1
          exact rt_i S hr hlk hH dX3_minus_47 (⟨rfl, hF, by rw [sComb_none hj0 hp0 hq0 e1], by rw [sComb_none hj0 hp0 hq0 e1]; exact ⟨_, _, _, _, _, _, _, _, _, _, _, _, _, _, _, m0, m1, m2, m3, m4, m5, m6, m7, m8, mz9, m10, m11, m12, hsl, hmi⟩⟩)
        · skip
          rcases hq5 with ⟨_, K, e1, hsl⟩ | ⟨e, _⟩
          rotate_left
          · exact absurd e c33
          refine lv_aload_n S.1 S.2.1 dX3_minus_36 rfl (lv_at hl 0 rfl) ?_
          refine gfX3_9 S hK hH m0 dX3_minus_37 ?_
          refine lv_iload_n S.1 S.2.1 dX3_minus_40 rfl (lv_at hl 1 rfl) ?_
          refine ald_i S hK hH m1 (by omega) (by omega) dX3_minus_41 ?_
          refine tpi (x' := nI (K.length)) (by have := (hsl j (by omega)).2.1; rw [va_up_self] at this; exact this) ?_
          refine lv_goto (tgt := 47) S.1 S.2.1 dX3_minus_42 (by decide) ?_
          rw [hrl p1 hp0, hrl q1 hq0] at e1
          exact rt_i S hr hlk hH dX3_minus_47 (⟨rfl, hF, by rw [sComb_some hj0 hp0 hq0 e1], by rw [sComb_some hj0 hp0 hq0 e1]; exact ⟨_, _, _, _, _, _, _, _, _, _, _, _, _, _, _, m0, m1, m2, m3, m4, m5, m6, m7, m8, mz9, m10, m11, m12, hsl, reg_I hmi hj0⟩⟩)
      · skip
        rcases hq3 with ⟨e, _⟩ | ⟨_, hb⟩
        · rw [e] at c18; exact absurd c18 (by decide)
        refine lv_iconst (v := (-1)) S.1 S.2.1 dX3_minus_21 (by decide) ?_
        exact rt_i S hr hlk hH dX3_minus_22 (⟨rfl, hF, by rw [sComb_bad (Or.inr (Or.inr (ri_none hb)))], by rw [sComb_bad (Or.inr (Or.inr (ri_none hb)))]; exact ⟨_, _, _, _, _, _, _, _, _, _, _, _, _, _, _, m0, m1, m2, m3, m4, m5, m6, m7, m8, mz9, m10, m11, m12, hsl, hmi⟩⟩)

set_option maxHeartbeats 4000000 in
set_option maxRecDepth 100000 in
theorem kX3_times {l : Launch} {G : Gx} {B : Nat} {w : Wm} {n : Nat} (M : Nat) (x a b : Int32) (σ : St) (hs : ModS G w M σ) : Met l yX3_times (wsM yX3_times cX3_times 4 (some .int)) ({ frames := 4, cells := 0, slots := 0, locals := 103 } : Room) (Pcx G B w n [.ref (M), .int (x), .int (a), .int (b)]) (Qi G B (fun r w' n' => n' = n ∧ (∀ b, (b < M ∨ M + 13 ≤ b) → w' b = w b) ∧ r = (sTimes σ x a b).1 ∧ ModS G w' M (sTimes σ x a b).2)) 0 0 (FA B) := by
  refine en (by decide) (Nat.le_of_ble_eq_true rfl) ?_
  intro p ev s mm ag bl mt cde S hr hlk hnm hK H hH ls hl
  have hl : lv_has ls 4 [(0, .ref (M)), (1, .int (x)), (2, .int (a)), (3, .int (b))] := hl
  obtain ⟨Sl, cnt, big, ma, gc, gh, gl, fc, fh, fl, nu, f1, f2, f3, f4, m0, m1, m2, m3, m4, m5, m6, m7, m8, mz9, m10, m11, m12, hsl, hmi⟩ := hs
  obtain ⟨hrl, hhl, hhc, hpc, hpt⟩ := id hmi
  have hF : ∀ b, b < M ∨ M + 13 ≤ b → w b = w b := fun _ _ => rfl
  refine lv_iload_n S.1 S.2.1 dX3_times_0 rfl (lv_at hl 1 rfl) ?_
  refine ck_ip (run_S (As := [.int (x)]) (rest := []) S hK hH (kX3_is x) ceX3_is mW350 rfl hl.1 rfl (Nat.le_of_ble_eq_true rfl) dX3_times_1 ⟨rfl, rfl, by decide, by decide⟩ ⟨show 0 + 0 ≤ 0 by omega, show 0 + 0 ≤ 0 by omega⟩) hH (fun r1 H locs hp hH => ?_)
  have hq1 : Hid _ := hp
  clear hp
  refine lv_if_eq (tgt := 21) S.1 S.2.1 dX3_times_4 (by decide) (fun c4 => ?_) (fun c4 => ?_)
  · skip
    rcases hq1 with ⟨e, _⟩ | ⟨_, hb⟩
    · rw [e] at c4; exact absurd c4 (by decide)
    refine lv_iconst (v := (-1)) S.1 S.2.1 dX3_times_21 (by decide) ?_
    exact rt_i S hr hlk hH dX3_times_22 (⟨rfl, hF, by rw [sTimes_bad (Or.inl (ri_none hb))], by rw [sTimes_bad (Or.inl (ri_none hb))]; exact ⟨_, _, _, _, _, _, _, _, _, _, _, _, _, _, _, m0, m1, m2, m3, m4, m5, m6, m7, m8, mz9, m10, m11, m12, hsl, hmi⟩⟩)
  · skip
    rcases hq1 with ⟨_, j, hj0, rfl⟩ | ⟨e, _⟩
    rotate_left
    · exact absurd e c4
    refine lv_iload_n S.1 S.2.1 dX3_times_7 rfl (lv_at hl 2 rfl) ?_
    refine ck_ip (run_S (As := [.int (a)]) (rest := []) S hK hH (kX3_is a) ceX3_is mW350 rfl hl.1 rfl (Nat.le_of_ble_eq_true rfl) dX3_times_8 ⟨rfl, rfl, by decide, by decide⟩ ⟨show 0 + 0 ≤ 0 by omega, show 0 + 0 ≤ 0 by omega⟩) hH (fun r8 H locs hp hH => ?_)
    have hq2 : Hid _ := hp
    clear hp
    refine lv_if_eq (tgt := 21) S.1 S.2.1 dX3_times_11 (by decide) (fun c11 => ?_) (fun c11 => ?_)
    · skip
      rcases hq2 with ⟨e, _⟩ | ⟨_, hb⟩
      · rw [e] at c11; exact absurd c11 (by decide)
      refine lv_iconst (v := (-1)) S.1 S.2.1 dX3_times_21 (by decide) ?_
      exact rt_i S hr hlk hH dX3_times_22 (⟨rfl, hF, by rw [sTimes_bad (Or.inr (Or.inl (ri_none hb)))], by rw [sTimes_bad (Or.inr (Or.inl (ri_none hb)))]; exact ⟨_, _, _, _, _, _, _, _, _, _, _, _, _, _, _, m0, m1, m2, m3, m4, m5, m6, m7, m8, mz9, m10, m11, m12, hsl, hmi⟩⟩)
    · skip
      rcases hq2 with ⟨_, p1, hp0, rfl⟩ | ⟨e, _⟩
      rotate_left
      · exact absurd e c11
      refine lv_iload_n S.1 S.2.1 dX3_times_14 rfl (lv_at hl 3 rfl) ?_
      refine ck_ip (run_S (As := [.int (b)]) (rest := []) S hK hH (kX3_is b) ceX3_is mW350 rfl hl.1 rfl (Nat.le_of_ble_eq_true rfl) dX3_times_15 ⟨rfl, rfl, by decide, by decide⟩ ⟨show 0 + 0 ≤ 0 by omega, show 0 + 0 ≤ 0 by omega⟩) hH (fun r15 H locs hp hH => ?_)
      have hq3 : Hid _ := hp
      clear hp
      refine lv_if_ne (tgt := 23) S.1 S.2.1 dX3_times_18 (by decide) (fun c18 => ?_) (fun c18 => ?_)
      · skip
        rcases hq3 with ⟨_, q1, hq0, rfl⟩ | ⟨e, _⟩
        rotate_left
        · exact absurd e c18
        refine lv_aload_n S.1 S.2.1 dX3_times_23 rfl (lv_at hl 0 rfl) ?_
        refine lv_iload_n S.1 S.2.1 dX3_times_24 rfl (lv_at hl 1 rfl) ?_
        refine lv_iload_n S.1 S.2.1 dX3_times_25 rfl (lv_at hl 2 rfl) ?_
        refine lv_iload_n S.1 S.2.1 dX3_times_26 rfl (lv_at hl 3 rfl) ?_
        refine ck_i (run_V (As := [.int (nI j), .int (nI p1), .int (nI q1)]) (rest := []) S hK hH (kX3_product M (j) (p1) (q1) Sl (nI (σ.2.2.1)) (nI (σ.2.2.2.2.2)) cnt big ma gc gh gl fc fh fl m0 m1 m2 m3 m4 m10 m11 m12 (by omega) (by omega) (by omega) hsl) ceX3_product mW408 m0 rfl rfl hl.1 rfl (Nat.le_of_ble_eq_true rfl) dX3_times_27 ⟨rfl, rfl, by decide, by decide⟩ ⟨show 0 + 0 ≤ 0 by omega, show 0 + 0 ≤ 0 by omega⟩) hH (fun r27 w4 n4 H locs hp hH => ?_)
        obtain ⟨hn1, hfr, ⟨cnt, big, fc, fh, fl, ma, gc, gh, gl, m0, m10, m11, m12, m1, m2, m3, m4, hq5⟩⟩ := hp
        rw [hn1] at hH
        replace hq5 : Hid _ := hq5
        replace m5 := (hfr (M + 5) (by omega)).trans m5
        replace m6 := (hfr (M + 6) (by omega)).trans m6
        replace m7 := (hfr (M + 7) (by omega)).trans m7
        replace m8 := (hfr (M + 8) (by omega)).trans m8
        replace mz9 := (hfr (M + 9) (by omega)).trans mz9
        replace hF : ∀ b, b < M ∨ M + 13 ≤ b → w4 b = w b := fun b hb => (hfr b (by omega)).trans (hF b hb)
        refine lv_if_eq (tgt := 42) S.1 S.2.1 dX3_times_30 (by decide) (fun c30 => ?_) (fun c30 => ?_)
        · skip
          rcases hq5 with ⟨e, _⟩ | ⟨_, e1, hsl⟩
          · rw [e] at c30; exact absurd c30 (by decide)
          refine lv_bipush (v := (-2)) S.1 S.2.1 dX3_times_42 (by decide) ?_
          rw [hrl p1 hp0, hrl q1 hq0] at e1
          exact rt_i S hr hlk hH dX3_times_44 (⟨rfl, hF, by rw [sTimes_none hj0 hp0 hq0 e1], by rw [sTimes_none hj0 hp0 hq0 e1]; exact ⟨_, _, _, _, _, _, _, _, _, _, _, _, _, _, _, m0, m1, m2, m3, m4, m5, m6, m7, m8, mz9, m10, m11, m12, hsl, hmi⟩⟩)
        · skip
          rcases hq5 with ⟨_, K, e1, hsl⟩ | ⟨e, _⟩
          rotate_left
          · exact absurd e c30
          refine lv_aload_n S.1 S.2.1 dX3_times_33 rfl (lv_at hl 0 rfl) ?_
          refine gfX3_9 S hK hH m0 dX3_times_34 ?_
          refine lv_iload_n S.1 S.2.1 dX3_times_37 rfl (lv_at hl 1 rfl) ?_
          refine ald_i S hK hH m1 (by omega) (by omega) dX3_times_38 ?_
          refine tpi (x' := nI (K.length)) (by have := (hsl j (by omega)).2.1; rw [va_up_self] at this; exact this) ?_
          refine lv_goto (tgt := 44) S.1 S.2.1 dX3_times_39 (by decide) ?_
          rw [hrl p1 hp0, hrl q1 hq0] at e1
          exact rt_i S hr hlk hH dX3_times_44 (⟨rfl, hF, by rw [sTimes_some hj0 hp0 hq0 e1], by rw [sTimes_some hj0 hp0 hq0 e1]; exact ⟨_, _, _, _, _, _, _, _, _, _, _, _, _, _, _, m0, m1, m2, m3, m4, m5, m6, m7, m8, mz9, m10, m11, m12, hsl, reg_I hmi hj0⟩⟩)
      · skip
        rcases hq3 with ⟨e, _⟩ | ⟨_, hb⟩
        · rw [e] at c18; exact absurd c18 (by decide)
        refine lv_iconst (v := (-1)) S.1 S.2.1 dX3_times_21 (by decide) ?_
        exact rt_i S hr hlk hH dX3_times_22 (⟨rfl, hF, by rw [sTimes_bad (Or.inr (Or.inr (ri_none hb)))], by rw [sTimes_bad (Or.inr (Or.inr (ri_none hb)))]; exact ⟨_, _, _, _, _, _, _, _, _, _, _, _, _, _, _, m0, m1, m2, m3, m4, m5, m6, m7, m8, mz9, m10, m11, m12, hsl, hmi⟩⟩)

set_option maxHeartbeats 4000000 in
set_option maxRecDepth 100000 in
theorem kX3_size {l : Launch} {G : Gx} {B : Nat} {w : Wm} {n : Nat} (M : Nat) (x : Int32) (σ : St) (hs : ModS G w M σ) : Met l yX3_size (wsM yX3_size cX3_size 2 (some .int)) ({ frames := 1, cells := 0, slots := 0, locals := 20 } : Room) (Pcx G B w n [.ref (M), .int (x)]) (Qi G B (fun r w' n' => w' = w ∧ n' = n ∧ r = sSize σ x)) 0 0 (FA B) := by
  refine en (by decide) (Nat.le_of_ble_eq_true rfl) ?_
  intro p ev s mm ag bl mt cde S hr hlk hnm hK H hH ls hl
  have hl : lv_has ls 2 [(0, .ref (M)), (1, .int (x))] := hl
  obtain ⟨Sl, cnt, big, ma, gc, gh, gl, fc, fh, fl, nu, f1, f2, f3, f4, m0, m1, m2, m3, m4, m5, m6, m7, m8, mz9, m10, m11, m12, hsl, hmi⟩ := hs
  obtain ⟨hrl, hhl, hhc, hpc, hpt⟩ := id hmi
  refine lv_iload_n S.1 S.2.1 dX3_size_0 rfl (lv_at hl 1 rfl) ?_
  refine ck_ip (run_S (As := [.int (x)]) (rest := []) S hK hH (kX3_is x) ceX3_is mW350 rfl hl.1 rfl (Nat.le_of_ble_eq_true rfl) dX3_size_1 ⟨rfl, rfl, by decide, by decide⟩ ⟨show 0 + 0 ≤ 0 by omega, show 0 + 0 ≤ 0 by omega⟩) hH (fun r1 H locs hp hH => ?_)
  have hq1 : Hid _ := hp
  clear hp
  refine lv_if_eq (tgt := 16) S.1 S.2.1 dX3_size_4 (by decide) (fun c4 => ?_) (fun c4 => ?_)
  · skip
    rcases hq1 with ⟨e, _⟩ | ⟨_, hb⟩
    · rw [e] at c4; exact absurd c4 (by decide)
    refine lv_iconst (v := (-1)) S.1 S.2.1 dX3_size_16 (by decide) ?_
    exact rt_i S hr hlk hH dX3_size_17 (⟨rfl, rfl, by rw [sSize, ri_none hb]⟩)
  · skip
    rcases hq1 with ⟨_, j, hj0, rfl⟩ | ⟨e, _⟩
    rotate_left
    · exact absurd e c4
    refine lv_aload_n S.1 S.2.1 dX3_size_7 rfl (lv_at hl 0 rfl) ?_
    refine gfX3_9 S hK hH m0 dX3_size_8 ?_
    refine lv_iload_n S.1 S.2.1 dX3_size_11 rfl (lv_at hl 1 rfl) ?_
    refine ald_i S hK hH m1 (by omega) (by omega) dX3_size_12 ?_
    refine tpi (x' := nI ((σ.1 j).length)) (by have := (hsl j (by omega)).2.1; rw [hrl j hj0] at this; exact this) ?_
    refine lv_goto (tgt := 17) S.1 S.2.1 dX3_size_13 (by decide) ?_
    exact rt_i S hr hlk hH dX3_size_17 (⟨rfl, rfl, by rw [sSize, ri_some hj0]⟩)

set_option maxHeartbeats 4000000 in
set_option maxRecDepth 100000 in
theorem kX3_count {l : Launch} {G : Gx} {B : Nat} {w : Wm} {n : Nat} (M : Nat) (x : Int32) (σ : St) (hs : ModS G w M σ) : Met l yX3_count (wsM yX3_count cX3_count 2 (some .int)) ({ frames := 0, cells := 0, slots := 0, locals := 0 } : Room) (Pcx G B w n [.ref (M), .int (x)]) (Qi G B (fun r w' n' => w' = w ∧ n' = n ∧ r = sCount σ x)) 0 0 (FA B) := by
  refine en (by decide) (Nat.le_of_ble_eq_true rfl) ?_
  intro p ev s mm ag bl mt cde S hr hlk hnm hK H hH ls hl
  have hl : lv_has ls 2 [(0, .ref (M)), (1, .int (x))] := hl
  obtain ⟨Sl, cnt, big, ma, gc, gh, gl, fc, fh, fl, nu, f1, f2, f3, f4, m0, m1, m2, m3, m4, m5, m6, m7, m8, mz9, m10, m11, m12, hsl, hmi⟩ := hs
  obtain ⟨hrl, hhl, hhc, hpc, hpt⟩ := id hmi
  refine lv_iload_n S.1 S.2.1 dX3_count_0 rfl (lv_at hl 1 rfl) ?_
  refine lv_if_ne (tgt := 11) S.1 S.2.1 dX3_count_1 (by decide) (fun c1 => ?_) (fun c1 => ?_)
  · skip
    refine lv_iload_n S.1 S.2.1 dX3_count_11 rfl (lv_at hl 1 rfl) ?_
    refine lv_iconst (v := nI 1) S.1 S.2.1 dX3_count_12 (by decide) ?_
    refine tpi (x' := (1 : Int32)) (by decide) ?_
    refine lv_icmp_ne (tgt := 23) S.1 S.2.1 dX3_count_13 (by decide) (fun c13 => ?_) (fun c13 => ?_)
    · skip
      refine lv_iconst (v := (-1)) S.1 S.2.1 dX3_count_23 (by decide) ?_
      exact rt_i S hr hlk hH dX3_count_24 (⟨rfl, rfl, by rw [sCount, if_neg c1, if_neg c13]⟩)
    · skip
      refine lv_aload_n S.1 S.2.1 dX3_count_16 rfl (lv_at hl 0 rfl) ?_
      refine gfX3_125 S hK hH m0 dX3_count_17 ?_
      refine lv_goto (tgt := 24) S.1 S.2.1 dX3_count_20 (by decide) ?_
      exact rt_i S hr hlk hH dX3_count_24 (⟨rfl, rfl, by rw [sCount, if_neg c1, if_pos c13]⟩)
  · skip
    refine lv_aload_n S.1 S.2.1 dX3_count_4 rfl (lv_at hl 0 rfl) ?_
    refine gfX3_121 S hK hH m0 dX3_count_5 ?_
    refine lv_goto (tgt := 24) S.1 S.2.1 dX3_count_8 (by decide) ?_
    exact rt_i S hr hlk hH dX3_count_24 (⟨rfl, rfl, by rw [sCount, if_pos c1]⟩)

set_option maxHeartbeats 4000000 in
set_option maxRecDepth 100000 in
theorem kX3_keep {l : Launch} {G : Gx} {B : Nat} {w : Wm} {n : Nat} (M : Nat) (x : Int32) (σ : St) (hs : ModS G w M σ) : Met l yX3_keep (wsM yX3_keep cX3_keep 2 (some .int)) ({ frames := 0, cells := 0, slots := 0, locals := 0 } : Room) (Pcx G B w n [.ref (M), .int (x)]) (Qi G B (fun r w' n' => n' = n ∧ (∀ b, (b < M ∨ M + 13 ≤ b) → w' b = w b) ∧ r = (sKeep σ x).1 ∧ ModS G w' M (sKeep σ x).2)) 0 0 (FA B) := by
  refine en (by decide) (Nat.le_of_ble_eq_true rfl) ?_
  intro p ev s mm ag bl mt cde S hr hlk hnm hK H hH ls hl
  have hl : lv_has ls 2 [(0, .ref (M)), (1, .int (x))] := hl
  obtain ⟨Sl, cnt, big, ma, gc, gh, gl, fc, fh, fl, nu, f1, f2, f3, f4, m0, m1, m2, m3, m4, m5, m6, m7, m8, mz9, m10, m11, m12, hsl, hmi⟩ := hs
  obtain ⟨hrl, hhl, hhc, hpc, hpt⟩ := id hmi
  have hF : ∀ b, b < M ∨ M + 13 ≤ b → w b = w b := fun _ _ => rfl
  refine lv_iload_n S.1 S.2.1 dX3_keep_0 rfl (lv_at hl 1 rfl) ?_
  refine lv_if_lt (tgt := 12) S.1 S.2.1 dX3_keep_1 (by decide) (fun c1 => ?_) (fun c1 => ?_)
  · skip
    refine lv_iconst (v := (-1)) S.1 S.2.1 dX3_keep_12 (by decide) ?_
    exact rt_i S hr hlk hH dX3_keep_13 (⟨rfl, hF, by rw [sKeep_neg c1], by rw [sKeep_neg c1]; exact ⟨_, _, _, _, _, _, _, _, _, _, _, _, _, _, _, m0, m1, m2, m3, m4, m5, m6, m7, m8, mz9, m10, m11, m12, hsl, hmi⟩⟩)
  · skip
    refine lv_iload_n S.1 S.2.1 dX3_keep_4 rfl (lv_at hl 1 rfl) ?_
    refine lv_aload_n S.1 S.2.1 dX3_keep_5 rfl (lv_at hl 0 rfl) ?_
    refine gfX3_121 S hK hH m0 dX3_keep_6 ?_
    refine lv_icmp_le (tgt := 14) S.1 S.2.1 dX3_keep_9 (by decide) (fun c9 => ?_) (fun c9 => ?_)
    · skip
      obtain ⟨j, hj1, rfl⟩ := nI_of c1
      have c9 : j ≤ σ.2.2.1 := (nI_leI (by omega) (by omega)).mp c9
      refine lv_aload_n S.1 S.2.1 dX3_keep_14 rfl (lv_at hl 0 rfl) ?_
      refine lv_iload_n S.1 S.2.1 dX3_keep_15 rfl (lv_at hl 1 rfl) ?_
      refine pfX3_121 S hK hH m0 dX3_keep_16 (fun w1 H locs m0 fr hH => ?_)
      replace m1 := (fr (M + 1) (by omega)).trans m1
      replace m2 := (fr (M + 2) (by omega)).trans m2
      replace m3 := (fr (M + 3) (by omega)).trans m3
      replace m4 := (fr (M + 4) (by omega)).trans m4
      replace m5 := (fr (M + 5) (by omega)).trans m5
      replace m6 := (fr (M + 6) (by omega)).trans m6
      replace m7 := (fr (M + 7) (by omega)).trans m7
      replace m8 := (fr (M + 8) (by omega)).trans m8
      replace mz9 := (fr (M + 9) (by omega)).trans mz9
      replace m10 := (fr (M + 10) (by omega)).trans m10
      replace m11 := (fr (M + 11) (by omega)).trans m11
      replace m12 := (fr (M + 12) (by omega)).trans m12
      replace hF : ∀ b, b < M ∨ M + 13 ≤ b → w1 b = w b := fun b hb => (fr b (by omega)).trans (hF b hb)
      refine lv_iload_n S.1 S.2.1 dX3_keep_19 rfl (lv_at hl 1 rfl) ?_
      exact rt_i S hr hlk hH dX3_keep_20 (⟨rfl, hF, by rw [sKeep_ok c9 (by omega)], by rw [sKeep_ok c9 (by omega)]; exact ⟨_, _, _, _, _, _, _, _, _, _, _, _, _, _, _, m0, m1, m2, m3, m4, m5, m6, m7, m8, mz9, m10, m11, m12, hsl, mkeep_I hmi c9⟩⟩)
    · skip
      refine lv_iconst (v := (-1)) S.1 S.2.1 dX3_keep_12 (by decide) ?_
      exact rt_i S hr hlk hH dX3_keep_13 (⟨rfl, hF, by rw [sKeep_big c1 c9 (by omega)], by rw [sKeep_big c1 c9 (by omega)]; exact ⟨_, _, _, _, _, _, _, _, _, _, _, _, _, _, _, m0, m1, m2, m3, m4, m5, m6, m7, m8, mz9, m10, m11, m12, hsl, hmi⟩⟩)

set_option maxHeartbeats 4000000 in
set_option maxRecDepth 100000 in
theorem kX3_hypothesis {l : Launch} {G : Gx} {B : Nat} {w : Wm} {n : Nat} (M : Nat) (x : Int32) (σ : St) (hs : ModS G w M σ) : Met l yX3_hypothesis (wsM yX3_hypothesis cX3_hypothesis 2 (some .int)) ({ frames := 1, cells := 0, slots := 0, locals := 23 } : Room) (Pcx G B w n [.ref (M), .int (x)]) (Qi G B (fun r w' n' => n' = n ∧ (∀ b, (b < M ∨ M + 13 ≤ b) → w' b = w b) ∧ r = (sHyp σ x).1 ∧ ModS G w' M (sHyp σ x).2)) 0 0 (FA B) := by
  refine en (by decide) (Nat.le_of_ble_eq_true rfl) ?_
  intro p ev s mm ag bl mt cde S hr hlk hnm hK H hH ls hl
  have hl : lv_has ls 2 [(0, .ref (M)), (1, .int (x))] := hl
  obtain ⟨Sl, cnt, big, ma, gc, gh, gl, fc, fh, fl, nu, f1, f2, f3, f4, m0, m1, m2, m3, m4, m5, m6, m7, m8, mz9, m10, m11, m12, hsl, hmi⟩ := hs
  obtain ⟨hrl, hhl, hhc, hpc, hpt⟩ := id hmi
  have hF : ∀ b, b < M ∨ M + 13 ≤ b → w b = w b := fun _ _ => rfl
  refine lv_iload_n S.1 S.2.1 dX3_hypothesis_0 rfl (lv_at hl 1 rfl) ?_
  refine ck_ip (run_S (As := [.int (x)]) (rest := []) S hK hH (kX3_is x) ceX3_is mW350 rfl hl.1 rfl (Nat.le_of_ble_eq_true rfl) dX3_hypothesis_1 ⟨rfl, rfl, by decide, by decide⟩ ⟨show 0 + 0 ≤ 0 by omega, show 0 + 0 ≤ 0 by omega⟩) hH (fun r1 H locs hp hH => ?_)
  have hq1 : Hid _ := hp
  clear hp
  refine lv_if_eq (tgt := 16) S.1 S.2.1 dX3_hypothesis_4 (by decide) (fun c4 => ?_) (fun c4 => ?_)
  · skip
    rcases hq1 with ⟨e, _⟩ | ⟨_, hb⟩
    · rw [e] at c4; exact absurd c4 (by decide)
    refine lv_iconst (v := (-1)) S.1 S.2.1 dX3_hypothesis_16 (by decide) ?_
    exact rt_i S hr hlk hH dX3_hypothesis_17 (⟨rfl, hF, by rw [sHyp_bad (ri_none hb)], by rw [sHyp_bad (ri_none hb)]; exact ⟨_, _, _, _, _, _, _, _, _, _, _, _, _, _, _, m0, m1, m2, m3, m4, m5, m6, m7, m8, mz9, m10, m11, m12, hsl, hmi⟩⟩)
  · skip
    rcases hq1 with ⟨_, j, hj0, rfl⟩ | ⟨e, _⟩
    rotate_left
    · exact absurd e c4
    refine lv_aload_n S.1 S.2.1 dX3_hypothesis_7 rfl (lv_at hl 0 rfl) ?_
    refine gfX3_121 S hK hH m0 dX3_hypothesis_8 ?_
    refine lv_bipush (v := nI 40) S.1 S.2.1 dX3_hypothesis_11 (by decide) ?_
    refine bn_ne (tgt := 18) S dX3_hypothesis_13 (by decide) (by omega) (fun c13 => ?_) (fun c13 => ?_)
    · skip
      refine lv_aload_n S.1 S.2.1 dX3_hypothesis_18 rfl (lv_at hl 0 rfl) ?_
      refine lv_iload_n S.1 S.2.1 dX3_hypothesis_19 rfl (lv_at hl 1 rfl) ?_
      refine lv_bipush (v := nI 16) S.1 S.2.1 dX3_hypothesis_20 (by decide) ?_
      refine lv_aload_n S.1 S.2.1 dX3_hypothesis_22 rfl (lv_at hl 0 rfl) ?_
      refine gfX3_121 S hK hH m0 dX3_hypothesis_23 ?_
      refine lv_iadd S.1 S.2.1 dX3_hypothesis_26 ?_
      refine tpi (x' := nI (16 + σ.2.2.1)) (nI_add _ _) ?_
      refine ck_v (run_V (As := [.int (nI j), .int (nI (16 + σ.2.2.1))]) (rest := []) S hK hH (kX3_copy M j (16 + σ.2.2.1) Sl (nI (σ.2.2.1)) (nI (σ.2.2.2.2.2)) cnt big ma gc gh gl fc fh fl m0 m1 m2 m3 m4 (by omega) (by omega) (by omega) hsl) ceX3_copy mW424 m0 rfl rfl hl.1 rfl (Nat.le_of_ble_eq_true rfl) dX3_hypothesis_27 ⟨rfl, rfl, by decide, by decide⟩ ⟨show 0 + 0 ≤ 0 by omega, show 0 + 0 ≤ 0 by omega⟩) hH (fun w2 n2 H locs hp hH => ?_)
      obtain ⟨hn1, hfr, ⟨ma, gc, gh, gl, m1, m2, m3, m4, hsl⟩⟩ := hp
      rw [hn1] at hH
      replace m0 := (hfr (M) (by omega)).trans m0
      replace m5 := (hfr (M + 5) (by omega)).trans m5
      replace m6 := (hfr (M + 6) (by omega)).trans m6
      replace m7 := (hfr (M + 7) (by omega)).trans m7
      replace m8 := (hfr (M + 8) (by omega)).trans m8
      replace mz9 := (hfr (M + 9) (by omega)).trans mz9
      replace m10 := (hfr (M + 10) (by omega)).trans m10
      replace m11 := (hfr (M + 11) (by omega)).trans m11
      replace m12 := (hfr (M + 12) (by omega)).trans m12
      replace hF : ∀ b, b < M ∨ M + 13 ≤ b → w2 b = w b := fun b hb => (hfr b (by omega)).trans (hF b hb)
      refine lv_aload_n S.1 S.2.1 dX3_hypothesis_30 rfl (lv_at hl 0 rfl) ?_
      refine lv_dup S.1 S.2.1 dX3_hypothesis_31 rfl ?_
      refine gfX3_121 S hK hH m0 dX3_hypothesis_32 ?_
      refine lv_iconst (v := nI 1) S.1 S.2.1 dX3_hypothesis_35 (by decide) ?_
      refine lv_iadd S.1 S.2.1 dX3_hypothesis_36 ?_
      refine tpi (x' := nI (σ.2.2.1 + 1)) (nI_add _ _) ?_
      refine pfX3_121 S hK hH m0 dX3_hypothesis_37 (fun w3 H locs m0 fr hH => ?_)
      replace m5 := (fr (M + 5) (by omega)).trans m5
      replace m6 := (fr (M + 6) (by omega)).trans m6
      replace m7 := (fr (M + 7) (by omega)).trans m7
      replace m8 := (fr (M + 8) (by omega)).trans m8
      replace mz9 := (fr (M + 9) (by omega)).trans mz9
      replace m10 := (fr (M + 10) (by omega)).trans m10
      replace m11 := (fr (M + 11) (by omega)).trans m11
      replace m12 := (fr (M + 12) (by omega)).trans m12
      replace m1 := (fr (M + 1) (by omega)).trans m1
      replace m2 := (fr (M + 2) (by omega)).trans m2
      replace m3 := (fr (M + 3) (by omega)).trans m3
      replace m4 := (fr (M + 4) (by omega)).trans m4
      replace hF : ∀ b, b < M ∨ M + 13 ≤ b → w3 b = w b := fun b hb => (fr b (by omega)).trans (hF b hb)
      refine lv_aload_n S.1 S.2.1 dX3_hypothesis_40 rfl (lv_at hl 0 rfl) ?_
      refine gfX3_121 S hK hH m0 dX3_hypothesis_41 ?_
      refine lv_iconst (v := nI 1) S.1 S.2.1 dX3_hypothesis_44 (by decide) ?_
      refine lv_isub S.1 S.2.1 dX3_hypothesis_45 ?_
      refine tpi (x' := nI ((σ.2.2.1 + 1) - 1)) (pk_sub (by omega)) ?_
      exact rt_i S hr hlk hH dX3_hypothesis_46 (⟨rfl, hF, by rw [sHyp_ok hj0 (by omega)]; rfl, by rw [sHyp_ok hj0 (by omega)]; exact ⟨_, _, _, _, _, _, _, _, _, _, _, _, _, _, _, m0, m1, m2, m3, m4, m5, m6, m7, m8, mz9, m10, m11, m12, hsl, mhyp_I hmi hj0 (by omega)⟩⟩)
    · skip
      refine lv_iconst (v := (-1)) S.1 S.2.1 dX3_hypothesis_16 (by decide) ?_
      exact rt_i S hr hlk hH dX3_hypothesis_17 (⟨rfl, hF, by rw [sHyp_full hj0 (by omega)], by rw [sHyp_full hj0 (by omega)]; exact ⟨_, _, _, _, _, _, _, _, _, _, _, _, _, _, _, m0, m1, m2, m3, m4, m5, m6, m7, m8, mz9, m10, m11, m12, hsl, hmi⟩⟩)

set_option maxHeartbeats 4000000 in
set_option maxRecDepth 100000 in
theorem kX3_part {l : Launch} {G : Gx} {B : Nat} {w : Wm} {n : Nat} (M : Nat) (x a b c d : Int32) (σ : St) (hs : ModS G w M σ) : Met l yX3_part (wsM yX3_part cX3_part 6 (some .int)) ({ frames := 0, cells := 0, slots := 0, locals := 0 } : Room) (Pcx G B w n [.ref (M), .int (x), .int (a), .int (b), .int (c), .int (d)]) (Qi G B (fun r w' n' => n' = n ∧ (∀ b, (b < M ∨ M + 13 ≤ b) → w' b = w b) ∧ r = (sPart σ x a b c d).1 ∧ ModS G w' M (sPart σ x a b c d).2)) 0 0 (FA B) := by
  refine en (by decide) (Nat.le_of_ble_eq_true rfl) ?_
  intro p ev s mm ag bl mt cde S hr hlk hnm hK H hH ls hl
  have hl : lv_has ls 6 [(0, .ref (M)), (1, .int (x)), (2, .int (a)), (3, .int (b)), (4, .int (c)), (5, .int (d))] := hl
  obtain ⟨Sl, cnt, big, ma, gc, gh, gl, fc, fh, fl, nu, f1, f2, f3, f4, m0, m1, m2, m3, m4, m5, m6, m7, m8, mz9, m10, m11, m12, hsl, hmi⟩ := hs
  obtain ⟨hrl, hhl, hhc, hpc, hpt⟩ := id hmi
  have hF : ∀ b, b < M ∨ M + 13 ≤ b → w b = w b := fun _ _ => rfl
  refine lv_iload_n S.1 S.2.1 dX3_part_0 rfl (lv_at hl 1 rfl) ?_
  refine lv_if_lt (tgt := 41) S.1 S.2.1 dX3_part_1 (by decide) (fun c1 => ?_) (fun c1 => ?_)
  · skip
    refine lv_iconst (v := (-1)) S.1 S.2.1 dX3_part_41 (by decide) ?_
    exact rt_i S hr hlk hH dX3_part_42 (⟨rfl, hF, by rw [sPart_1 c1], by rw [sPart_1 c1]; exact ⟨_, _, _, _, _, _, _, _, _, _, _, _, _, _, _, m0, m1, m2, m3, m4, m5, m6, m7, m8, mz9, m10, m11, m12, hsl, hmi⟩⟩)
  · skip
    refine lv_iload_n S.1 S.2.1 dX3_part_4 rfl (lv_at hl 1 rfl) ?_
    refine lv_ldc S.1 S.2.1 S.2.2.2.1 (S.2.2.2.2 _ mW460) dX3_part_5 ?_
    refine tpi (x' := nI 99999999) (by decide) ?_
    refine lv_icmp_gt (tgt := 41) S.1 S.2.1 dX3_part_7 (by decide) (fun c7 => ?_) (fun c7 => ?_)
    · skip
      refine lv_iconst (v := (-1)) S.1 S.2.1 dX3_part_41 (by decide) ?_
      exact rt_i S hr hlk hH dX3_part_42 (⟨rfl, hF, by rw [sPart_2 c7], by rw [sPart_2 c7]; exact ⟨_, _, _, _, _, _, _, _, _, _, _, _, _, _, _, m0, m1, m2, m3, m4, m5, m6, m7, m8, mz9, m10, m11, m12, hsl, hmi⟩⟩)
    · skip
      refine lv_iload_n S.1 S.2.1 dX3_part_10 rfl (lv_at hl 2 rfl) ?_
      refine lv_iconst (v := (-1)) S.1 S.2.1 dX3_part_11 (by decide) ?_
      refine lv_icmp_lt (tgt := 41) S.1 S.2.1 dX3_part_12 (by decide) (fun c12 => ?_) (fun c12 => ?_)
      · skip
        refine lv_iconst (v := (-1)) S.1 S.2.1 dX3_part_41 (by decide) ?_
        exact rt_i S hr hlk hH dX3_part_42 (⟨rfl, hF, by rw [sPart_4 c12], by rw [sPart_4 c12]; exact ⟨_, _, _, _, _, _, _, _, _, _, _, _, _, _, _, m0, m1, m2, m3, m4, m5, m6, m7, m8, mz9, m10, m11, m12, hsl, hmi⟩⟩)
      · skip
        refine lv_iload_n S.1 S.2.1 dX3_part_15 rfl (lv_at hl 3 rfl) ?_
        refine lv_iconst (v := (-1)) S.1 S.2.1 dX3_part_16 (by decide) ?_
        refine lv_icmp_lt (tgt := 41) S.1 S.2.1 dX3_part_17 (by decide) (fun c17 => ?_) (fun c17 => ?_)
        · skip
          refine lv_iconst (v := (-1)) S.1 S.2.1 dX3_part_41 (by decide) ?_
          exact rt_i S hr hlk hH dX3_part_42 (⟨rfl, hF, by rw [sPart_5 c17], by rw [sPart_5 c17]; exact ⟨_, _, _, _, _, _, _, _, _, _, _, _, _, _, _, m0, m1, m2, m3, m4, m5, m6, m7, m8, mz9, m10, m11, m12, hsl, hmi⟩⟩)
        · skip
          refine lv_iload S.1 S.2.1 dX3_part_20 (lv_at hl 4 rfl) ?_
          refine lv_iconst (v := (-1)) S.1 S.2.1 dX3_part_22 (by decide) ?_
          refine lv_icmp_lt (tgt := 41) S.1 S.2.1 dX3_part_23 (by decide) (fun c23 => ?_) (fun c23 => ?_)
          · skip
            refine lv_iconst (v := (-1)) S.1 S.2.1 dX3_part_41 (by decide) ?_
            exact rt_i S hr hlk hH dX3_part_42 (⟨rfl, hF, by rw [sPart_6 c23], by rw [sPart_6 c23]; exact ⟨_, _, _, _, _, _, _, _, _, _, _, _, _, _, _, m0, m1, m2, m3, m4, m5, m6, m7, m8, mz9, m10, m11, m12, hsl, hmi⟩⟩)
          · skip
            refine lv_iload S.1 S.2.1 dX3_part_26 (lv_at hl 5 rfl) ?_
            refine lv_iconst (v := (-1)) S.1 S.2.1 dX3_part_28 (by decide) ?_
            refine lv_icmp_lt (tgt := 41) S.1 S.2.1 dX3_part_29 (by decide) (fun c29 => ?_) (fun c29 => ?_)
            · skip
              refine lv_iconst (v := (-1)) S.1 S.2.1 dX3_part_41 (by decide) ?_
              exact rt_i S hr hlk hH dX3_part_42 (⟨rfl, hF, by rw [sPart_7 c29], by rw [sPart_7 c29]; exact ⟨_, _, _, _, _, _, _, _, _, _, _, _, _, _, _, m0, m1, m2, m3, m4, m5, m6, m7, m8, mz9, m10, m11, m12, hsl, hmi⟩⟩)
            · skip
              refine lv_aload_n S.1 S.2.1 dX3_part_32 rfl (lv_at hl 0 rfl) ?_
              refine gfX3_125 S hK hH m0 dX3_part_33 ?_
              refine lv_bipush (v := nI 20) S.1 S.2.1 dX3_part_36 (by decide) ?_
              refine bn_ne (tgt := 43) S dX3_part_38 (by decide) (by omega) (fun c38 => ?_) (fun c38 => ?_)
              · skip
                obtain ⟨q1, hq1, rfl⟩ := nI_of c1
                have c7 : q1 ≤ 99999999 := Nat.le_of_not_lt (fun e => c7 (nI_lt e (by omega)))
                have c38 : σ.2.2.2.2.2 < 20 := by omega
                refine lv_aload_n S.1 S.2.1 dX3_part_43 rfl (lv_at hl 0 rfl) ?_
                refine gfX3_23 S hK hH m0 dX3_part_44 ?_
                refine lv_aload_n S.1 S.2.1 dX3_part_47 rfl (lv_at hl 0 rfl) ?_
                refine gfX3_125 S hK hH m0 dX3_part_48 ?_
                refine lv_iload_n S.1 S.2.1 dX3_part_51 rfl (lv_at hl 1 rfl) ?_
                refine ast_i S hK hH m5 (by omega) (by omega) dX3_part_52 (fun w1 H locs m5 fr hH => ?_)
                replace m0 := (fr (M) (by omega)).trans m0
                replace m1 := (fr (M + 1) (by omega)).trans m1
                replace m2 := (fr (M + 2) (by omega)).trans m2
                replace m3 := (fr (M + 3) (by omega)).trans m3
                replace m4 := (fr (M + 4) (by omega)).trans m4
                replace m6 := (fr (M + 6) (by omega)).trans m6
                replace m7 := (fr (M + 7) (by omega)).trans m7
                replace m8 := (fr (M + 8) (by omega)).trans m8
                replace mz9 := (fr (M + 9) (by omega)).trans mz9
                replace m10 := (fr (M + 10) (by omega)).trans m10
                replace m11 := (fr (M + 11) (by omega)).trans m11
                replace m12 := (fr (M + 12) (by omega)).trans m12
                replace hF : ∀ b, b < M ∨ M + 13 ≤ b → w1 b = w b := fun b hb => (fr b (by omega)).trans (hF b hb)
                refine lv_aload_n S.1 S.2.1 dX3_part_53 rfl (lv_at hl 0 rfl) ?_
                refine gfX3_26 S hK hH m0 dX3_part_54 ?_
                refine lv_aload_n S.1 S.2.1 dX3_part_57 rfl (lv_at hl 0 rfl) ?_
                refine gfX3_125 S hK hH m0 dX3_part_58 ?_
                refine lv_iload_n S.1 S.2.1 dX3_part_61 rfl (lv_at hl 2 rfl) ?_
                refine ast_i S hK hH m6 (by omega) (by omega) dX3_part_62 (fun w2 H locs m6 fr hH => ?_)
                replace m0 := (fr (M) (by omega)).trans m0
                replace m1 := (fr (M + 1) (by omega)).trans m1
                replace m2 := (fr (M + 2) (by omega)).trans m2
                replace m3 := (fr (M + 3) (by omega)).trans m3
                replace m4 := (fr (M + 4) (by omega)).trans m4
                replace m5 := (fr (M + 5) (by omega)).trans m5
                replace m7 := (fr (M + 7) (by omega)).trans m7
                replace m8 := (fr (M + 8) (by omega)).trans m8
                replace mz9 := (fr (M + 9) (by omega)).trans mz9
                replace m10 := (fr (M + 10) (by omega)).trans m10
                replace m11 := (fr (M + 11) (by omega)).trans m11
                replace m12 := (fr (M + 12) (by omega)).trans m12
                replace hF : ∀ b, b < M ∨ M + 13 ≤ b → w2 b = w b := fun b hb => (fr b (by omega)).trans (hF b hb)
                refine lv_aload_n S.1 S.2.1 dX3_part_63 rfl (lv_at hl 0 rfl) ?_
                refine gfX3_29 S hK hH m0 dX3_part_64 ?_
                refine lv_aload_n S.1 S.2.1 dX3_part_67 rfl (lv_at hl 0 rfl) ?_
                refine gfX3_125 S hK hH m0 dX3_part_68 ?_
                refine lv_iload_n S.1 S.2.1 dX3_part_71 rfl (lv_at hl 3 rfl) ?_
                refine ast_i S hK hH m7 (by omega) (by omega) dX3_part_72 (fun w3 H locs m7 fr hH => ?_)
                replace m0 := (fr (M) (by omega)).trans m0
                replace m1 := (fr (M + 1) (by omega)).trans m1
                replace m2 := (fr (M + 2) (by omega)).trans m2
                replace m3 := (fr (M + 3) (by omega)).trans m3
                replace m4 := (fr (M + 4) (by omega)).trans m4
                replace m5 := (fr (M + 5) (by omega)).trans m5
                replace m6 := (fr (M + 6) (by omega)).trans m6
                replace m8 := (fr (M + 8) (by omega)).trans m8
                replace mz9 := (fr (M + 9) (by omega)).trans mz9
                replace m10 := (fr (M + 10) (by omega)).trans m10
                replace m11 := (fr (M + 11) (by omega)).trans m11
                replace m12 := (fr (M + 12) (by omega)).trans m12
                replace hF : ∀ b, b < M ∨ M + 13 ≤ b → w3 b = w b := fun b hb => (fr b (by omega)).trans (hF b hb)
                refine lv_aload_n S.1 S.2.1 dX3_part_73 rfl (lv_at hl 0 rfl) ?_
                refine gfX3_32 S hK hH m0 dX3_part_74 ?_
                refine lv_aload_n S.1 S.2.1 dX3_part_77 rfl (lv_at hl 0 rfl) ?_
                refine gfX3_125 S hK hH m0 dX3_part_78 ?_
                refine lv_iload S.1 S.2.1 dX3_part_81 (lv_at hl 4 rfl) ?_
                refine ast_i S hK hH m8 (by omega) (by omega) dX3_part_83 (fun w4 H locs m8 fr hH => ?_)
                replace m0 := (fr (M) (by omega)).trans m0
                replace m1 := (fr (M + 1) (by omega)).trans m1
                replace m2 := (fr (M + 2) (by omega)).trans m2
                replace m3 := (fr (M + 3) (by omega)).trans m3
                replace m4 := (fr (M + 4) (by omega)).trans m4
                replace m5 := (fr (M + 5) (by omega)).trans m5
                replace m6 := (fr (M + 6) (by omega)).trans m6
                replace m7 := (fr (M + 7) (by omega)).trans m7
                replace mz9 := (fr (M + 9) (by omega)).trans mz9
                replace m10 := (fr (M + 10) (by omega)).trans m10
                replace m11 := (fr (M + 11) (by omega)).trans m11
                replace m12 := (fr (M + 12) (by omega)).trans m12
                replace hF : ∀ b, b < M ∨ M + 13 ≤ b → w4 b = w b := fun b hb => (fr b (by omega)).trans (hF b hb)
                refine lv_aload_n S.1 S.2.1 dX3_part_84 rfl (lv_at hl 0 rfl) ?_
                refine gfX3_35 S hK hH m0 dX3_part_85 ?_
                refine lv_aload_n S.1 S.2.1 dX3_part_88 rfl (lv_at hl 0 rfl) ?_
                refine gfX3_125 S hK hH m0 dX3_part_89 ?_
                refine lv_iload S.1 S.2.1 dX3_part_92 (lv_at hl 5 rfl) ?_
                refine ast_i S hK hH mz9 (by omega) (by omega) dX3_part_94 (fun w5 H locs mz9 fr hH => ?_)
                replace m0 := (fr (M) (by omega)).trans m0
                replace m1 := (fr (M + 1) (by omega)).trans m1
                replace m2 := (fr (M + 2) (by omega)).trans m2
                replace m3 := (fr (M + 3) (by omega)).trans m3
                replace m4 := (fr (M + 4) (by omega)).trans m4
                replace m5 := (fr (M + 5) (by omega)).trans m5
                replace m6 := (fr (M + 6) (by omega)).trans m6
                replace m7 := (fr (M + 7) (by omega)).trans m7
                replace m8 := (fr (M + 8) (by omega)).trans m8
                replace m10 := (fr (M + 10) (by omega)).trans m10
                replace m11 := (fr (M + 11) (by omega)).trans m11
                replace m12 := (fr (M + 12) (by omega)).trans m12
                replace hF : ∀ b, b < M ∨ M + 13 ≤ b → w5 b = w b := fun b hb => (fr b (by omega)).trans (hF b hb)
                refine lv_aload_n S.1 S.2.1 dX3_part_95 rfl (lv_at hl 0 rfl) ?_
                refine lv_dup S.1 S.2.1 dX3_part_96 rfl ?_
                refine gfX3_125 S hK hH m0 dX3_part_97 ?_
                refine lv_iconst (v := nI 1) S.1 S.2.1 dX3_part_100 (by decide) ?_
                refine lv_iadd S.1 S.2.1 dX3_part_101 ?_
                refine tpi (x' := nI (σ.2.2.2.2.2 + 1)) (nI_add _ _) ?_
                refine pfX3_125 S hK hH m0 dX3_part_102 (fun w6 H locs m0 fr hH => ?_)
                replace m1 := (fr (M + 1) (by omega)).trans m1
                replace m2 := (fr (M + 2) (by omega)).trans m2
                replace m3 := (fr (M + 3) (by omega)).trans m3
                replace m4 := (fr (M + 4) (by omega)).trans m4
                replace m5 := (fr (M + 5) (by omega)).trans m5
                replace m6 := (fr (M + 6) (by omega)).trans m6
                replace m7 := (fr (M + 7) (by omega)).trans m7
                replace m8 := (fr (M + 8) (by omega)).trans m8
                replace mz9 := (fr (M + 9) (by omega)).trans mz9
                replace m10 := (fr (M + 10) (by omega)).trans m10
                replace m11 := (fr (M + 11) (by omega)).trans m11
                replace m12 := (fr (M + 12) (by omega)).trans m12
                replace hF : ∀ b, b < M ∨ M + 13 ≤ b → w6 b = w b := fun b hb => (fr b (by omega)).trans (hF b hb)
                refine lv_aload_n S.1 S.2.1 dX3_part_105 rfl (lv_at hl 0 rfl) ?_
                refine gfX3_125 S hK hH m0 dX3_part_106 ?_
                exact rt_i S hr hlk hH dX3_part_109 (⟨rfl, hF, by rw [sPart_ok c7 c38 c12 c17 c23 (Int32.not_lt.mp c29)], by rw [sPart_ok c7 c38 c12 c17 c23 (Int32.not_lt.mp c29)]; exact ⟨_, _, _, _, _, _, _, _, _, _, _, _, _, _, _, m0, m1, m2, m3, m4, m5, m6, m7, m8, mz9, m10, m11, m12, hsl, mpart_I hmi c7 c38⟩⟩)
              · skip
                refine lv_iconst (v := (-1)) S.1 S.2.1 dX3_part_41 (by decide) ?_
                exact rt_i S hr hlk hH dX3_part_42 (⟨rfl, hF, by rw [sPart_3 (by omega)], by rw [sPart_3 (by omega)]; exact ⟨_, _, _, _, _, _, _, _, _, _, _, _, _, _, _, m0, m1, m2, m3, m4, m5, m6, m7, m8, mz9, m10, m11, m12, hsl, hmi⟩⟩)

set_option maxHeartbeats 4000000 in
set_option maxRecDepth 100000 in
theorem kX3_term {l : Launch} {G : Gx} {B : Nat} {w : Wm} {n : Nat} (M : Nat) (x k wh : Int32) (σ : St) (hs : ModS G w M σ) : Met l yX3_term (wsM yX3_term cX3_term 4 (some .int)) ({ frames := 1, cells := 0, slots := 0, locals := 22 } : Room) (Pcx G B w n [.ref (M), .int (x), .int (k), .int (wh)]) (Qi G B (fun r w' n' => w' = w ∧ n' = n ∧ r = sTerm σ x k wh)) 0 0 (FA B) := by
  refine en (by decide) (Nat.le_of_ble_eq_true rfl) ?_
  intro p ev s mm ag bl mt cde S hr hlk hnm hK H hH ls hl
  have hl : lv_has ls 4 [(0, .ref (M)), (1, .int (x)), (2, .int (k)), (3, .int (wh))] := hl
  obtain ⟨Sl, cnt, big, ma, gc, gh, gl, fc, fh, fl, nu, f1, f2, f3, f4, m0, m1, m2, m3, m4, m5, m6, m7, m8, mz9, m10, m11, m12, hsl, hmi⟩ := hs
  obtain ⟨hrl, hhl, hhc, hpc, hpt⟩ := id hmi
  refine lv_iload_n S.1 S.2.1 dX3_term_0 rfl (lv_at hl 1 rfl) ?_
  refine ck_ip (run_S (As := [.int (x)]) (rest := []) S hK hH (kX3_is x) ceX3_is mW350 rfl hl.1 rfl (Nat.le_of_ble_eq_true rfl) dX3_term_1 ⟨rfl, rfl, by decide, by decide⟩ ⟨show 0 + 0 ≤ 0 by omega, show 0 + 0 ≤ 0 by omega⟩) hH (fun r1 H locs hp hH => ?_)
  have hq1 : Hid _ := hp
  clear hp
  refine lv_if_eq (tgt := 32) S.1 S.2.1 dX3_term_4 (by decide) (fun c4 => ?_) (fun c4 => ?_)
  · skip
    rcases hq1 with ⟨e, _⟩ | ⟨_, hb⟩
    · rw [e] at c4; exact absurd c4 (by decide)
    refine lv_iconst (v := nI 0) S.1 S.2.1 dX3_term_32 (by decide) ?_
    exact rt_i S hr hlk hH dX3_term_33 (⟨rfl, rfl, by rw [sTerm, ri_none hb]; rfl⟩)
  · skip
    rcases hq1 with ⟨_, j, hj0, rfl⟩ | ⟨e, _⟩
    rotate_left
    · exact absurd e c4
    refine lv_iload_n S.1 S.2.1 dX3_term_7 rfl (lv_at hl 2 rfl) ?_
    refine lv_if_lt (tgt := 32) S.1 S.2.1 dX3_term_8 (by decide) (fun c8 => ?_) (fun c8 => ?_)
    · skip
      refine lv_iconst (v := nI 0) S.1 S.2.1 dX3_term_32 (by decide) ?_
      exact rt_i S hr hlk hH dX3_term_33 (⟨rfl, rfl, (sTerm_k hj0 (Or.inl (lt0 c8))).symm⟩)
    · skip
      refine lv_iload_n S.1 S.2.1 dX3_term_11 rfl (lv_at hl 2 rfl) ?_
      refine lv_aload_n S.1 S.2.1 dX3_term_12 rfl (lv_at hl 0 rfl) ?_
      refine gfX3_9 S hK hH m0 dX3_term_13 ?_
      refine lv_iload_n S.1 S.2.1 dX3_term_16 rfl (lv_at hl 1 rfl) ?_
      have hlen : (σ.1 j).length ≤ 60 := by have := (hsl j (by omega)).1.2.1; rw [hrl j hj0] at this; exact this
      refine ald_i S hK hH m1 (by omega) (by omega) dX3_term_17 ?_
      refine tpi (x' := nI ((σ.1 j).length)) (by have := (hsl j (by omega)).2.1; rw [hrl j hj0] at this; exact this) ?_
      refine lv_icmp_ge (tgt := 32) S.1 S.2.1 dX3_term_18 (by decide) (fun c18 => ?_) (fun c18 => ?_)
      · skip
        refine lv_iconst (v := nI 0) S.1 S.2.1 dX3_term_32 (by decide) ?_
        exact rt_i S hr hlk hH dX3_term_33 (⟨rfl, rfl, (sTerm_k hj0 (Or.inr (le_nI (by omega) c18))).symm⟩)
      · skip
        refine lv_iload_n S.1 S.2.1 dX3_term_21 rfl (lv_at hl 3 rfl) ?_
        refine lv_iconst (v := (-1)) S.1 S.2.1 dX3_term_22 (by decide) ?_
        refine lv_icmp_lt (tgt := 32) S.1 S.2.1 dX3_term_23 (by decide) (fun c23 => ?_) (fun c23 => ?_)
        · skip
          refine lv_iconst (v := nI 0) S.1 S.2.1 dX3_term_32 (by decide) ?_
          exact rt_i S hr hlk hH dX3_term_33 (⟨rfl, rfl, (sTerm_w hj0 (wh_1 c23)).symm⟩)
        · skip
          refine lv_iload_n S.1 S.2.1 dX3_term_26 rfl (lv_at hl 3 rfl) ?_
          refine lv_bipush (v := nI 15) S.1 S.2.1 dX3_term_27 (by decide) ?_
          refine lv_icmp_le (tgt := 34) S.1 S.2.1 dX3_term_29 (by decide) (fun c29 => ?_) (fun c29 => ?_)
          · skip
            obtain ⟨i, hi0, rfl⟩ := ix_in c8 c18 (by omega)
            refine lv_iload_n S.1 S.2.1 dX3_term_34 rfl (lv_at hl 3 rfl) ?_
            refine lv_iconst (v := (-1)) S.1 S.2.1 dX3_term_35 (by decide) ?_
            refine lv_icmp_ne (tgt := 54) S.1 S.2.1 dX3_term_36 (by decide) (fun c36 => ?_) (fun c36 => ?_)
            · skip
              obtain ⟨t, ht0, rfl⟩ := wh_in c23 c29 c36
              refine lv_aload_n S.1 S.2.1 dX3_term_54 rfl (lv_at hl 0 rfl) ?_
              refine lv_bipush (v := nI 60) S.1 S.2.1 dX3_term_55 (by decide) ?_
              refine lv_iload_n S.1 S.2.1 dX3_term_57 rfl (lv_at hl 1 rfl) ?_
              refine lv_imul S.1 S.2.1 dX3_term_58 ?_
              refine tpi (x' := nI (60 * j)) (pk_mul _ _) ?_
              refine lv_iload_n S.1 S.2.1 dX3_term_59 rfl (lv_at hl 2 rfl) ?_
              refine lv_iadd S.1 S.2.1 dX3_term_60 ?_
              refine tpi (x' := nI (60 * j + i)) (nI_add _ _) ?_
              refine lv_iload_n S.1 S.2.1 dX3_term_61 rfl (lv_at hl 3 rfl) ?_
              refine ck_ip (run_V (As := [.int (nI (60 * j + i)), .int (nI t)]) (rest := []) S hK hH (kX3_power M j i t Sl (nI (σ.2.2.1)) (nI (σ.2.2.2.2.2)) cnt big ma gc gh gl fc fh fl m0 m1 m2 m3 m4 (by omega) hsl (by rw [hrl j hj0]; exact hi0) ht0) ceX3_power mW420 m0 rfl rfl hl.1 rfl (Nat.le_of_ble_eq_true rfl) dX3_term_62 ⟨rfl, rfl, by decide, by decide⟩ ⟨show 0 + 0 ≤ 0 by omega, show 0 + 0 ≤ 0 by omega⟩) hH (fun r62 H locs hp hH => ?_)
              obtain rfl := hp
              exact rt_i S hr hlk hH dX3_term_65 (⟨rfl, rfl, sTerm_p hj0 hlen c36 (Or.inl ⟨i, t, hi0, ht0, rfl, rfl, by rw [hrl j hj0]⟩)⟩)
            · skip
              refine lv_aload_n S.1 S.2.1 dX3_term_39 rfl (lv_at hl 0 rfl) ?_
              refine gfX3_13 S hK hH m0 dX3_term_40 ?_
              refine lv_bipush (v := nI 60) S.1 S.2.1 dX3_term_43 (by decide) ?_
              refine lv_iload_n S.1 S.2.1 dX3_term_45 rfl (lv_at hl 1 rfl) ?_
              refine lv_imul S.1 S.2.1 dX3_term_46 ?_
              refine tpi (x' := nI (60 * j)) (pk_mul _ _) ?_
              refine lv_iload_n S.1 S.2.1 dX3_term_47 rfl (lv_at hl 2 rfl) ?_
              refine lv_iadd S.1 S.2.1 dX3_term_48 ?_
              refine tpi (x' := nI (60 * j + i)) (nI_add _ _) ?_
              refine ald_l S hK hH m2 (by omega) (by omega) dX3_term_49 ?_
              refine tpl (x' := lI (cf (σ.1 j) i)) (by have := ((hsl j (by omega)).2.2 i (by rw [hrl j hj0]; exact hi0)).1; rw [hrl j hj0] at this; exact this) ?_
              refine lv_l2i (v := iI (cf (σ.1 j) i)) S.1 S.2.1 dX3_term_50 (lI_i _) ?_
              refine lv_goto (tgt := 65) S.1 S.2.1 dX3_term_51 (by decide) ?_
              exact rt_i S hr hlk hH dX3_term_65 (⟨rfl, rfl, sTerm_c hj0 hlen c36 (Or.inl ⟨i, hi0, rfl, rfl⟩)⟩)
          · skip
            refine lv_iconst (v := nI 0) S.1 S.2.1 dX3_term_32 (by decide) ?_
            exact rt_i S hr hlk hH dX3_term_33 (⟨rfl, rfl, (sTerm_w hj0 (wh_2 c29)).symm⟩)

set_option maxHeartbeats 4000000 in
set_option maxRecDepth 100000 in
theorem kX3_hypOf {l : Launch} {G : Gx} {B : Nat} {w : Wm} {n : Nat} (M t k : Nat) (hc pc cnt big : Int32) (f1 f2 f3 f4 : Nat → Int32) (m0 : w M = some (MOb M hc pc cnt big)) (m6 : w (M + 6) = some (eI G 20 f1)) (m7 : w (M + 7) = some (eI G 20 f2)) (m8 : w (M + 8) = some (eI G 20 f3)) (mz9 : w (M + 9) = some (eI G 20 f4)) (ht : t < 20) (hk : k < 4) : Met l yX3_hypOf (wsM yX3_hypOf cX3_hypOf 3 (some .int)) ({ frames := 0, cells := 0, slots := 0, locals := 0 } : Room) (Pcx G B w n [.ref (M), .int (nI t), .int (nI k)]) (Qi G B (fun r w' n' => w' = w ∧ n' = n ∧ r = hO f1 f2 f3 f4 t k)) 0 0 (FA B) := by
  refine en (by decide) (Nat.le_of_ble_eq_true rfl) ?_
  intro p ev s mm ag bl mt cde S hr hlk hnm hK H hH ls hl
  have hl : lv_has ls 3 [(0, .ref (M)), (1, .int (nI t)), (2, .int (nI k))] := hl
  refine lv_iload_n S.1 S.2.1 dX3_hypOf_0 rfl (lv_at hl 2 rfl) ?_
  refine lv_if_ne (tgt := 13) S.1 S.2.1 dX3_hypOf_1 (by decide) (fun c1 => ?_) (fun c1 => ?_)
  · skip
    have c1 : k ≠ 0 := fun e => c1 (by rw [e]; rfl)
    refine lv_iload_n S.1 S.2.1 dX3_hypOf_13 rfl (lv_at hl 2 rfl) ?_
    refine lv_iconst (v := nI 1) S.1 S.2.1 dX3_hypOf_14 (by decide) ?_
    refine bn_ne (tgt := 27) S dX3_hypOf_15 (by decide) (by omega) (fun c15 => ?_) (fun c15 => ?_)
    · skip
      refine lv_iload_n S.1 S.2.1 dX3_hypOf_27 rfl (lv_at hl 2 rfl) ?_
      refine lv_iconst (v := nI 2) S.1 S.2.1 dX3_hypOf_28 (by decide) ?_
      refine bn_ne (tgt := 41) S dX3_hypOf_29 (by decide) (by omega) (fun c29 => ?_) (fun c29 => ?_)
      · skip
        refine lv_aload_n S.1 S.2.1 dX3_hypOf_41 rfl (lv_at hl 0 rfl) ?_
        refine gfX3_35 S hK hH m0 dX3_hypOf_42 ?_
        refine lv_iload_n S.1 S.2.1 dX3_hypOf_45 rfl (lv_at hl 1 rfl) ?_
        refine ald_i S hK hH mz9 (by omega) (by omega) dX3_hypOf_46 ?_
        exact rt_i S hr hlk hH dX3_hypOf_47 (⟨rfl, rfl, by rw [show k = 3 by omega]; rfl⟩)
      · skip
        refine lv_aload_n S.1 S.2.1 dX3_hypOf_32 rfl (lv_at hl 0 rfl) ?_
        refine gfX3_32 S hK hH m0 dX3_hypOf_33 ?_
        refine lv_iload_n S.1 S.2.1 dX3_hypOf_36 rfl (lv_at hl 1 rfl) ?_
        refine ald_i S hK hH m8 (by omega) (by omega) dX3_hypOf_37 ?_
        refine lv_goto (tgt := 47) S.1 S.2.1 dX3_hypOf_38 (by decide) ?_
        exact rt_i S hr hlk hH dX3_hypOf_47 (⟨rfl, rfl, by rw [show k = 2 by omega]; rfl⟩)
    · skip
      refine lv_aload_n S.1 S.2.1 dX3_hypOf_18 rfl (lv_at hl 0 rfl) ?_
      refine gfX3_29 S hK hH m0 dX3_hypOf_19 ?_
      refine lv_iload_n S.1 S.2.1 dX3_hypOf_22 rfl (lv_at hl 1 rfl) ?_
      refine ald_i S hK hH m7 (by omega) (by omega) dX3_hypOf_23 ?_
      refine lv_goto (tgt := 47) S.1 S.2.1 dX3_hypOf_24 (by decide) ?_
      exact rt_i S hr hlk hH dX3_hypOf_47 (⟨rfl, rfl, by rw [show k = 1 by omega]; rfl⟩)
  · skip
    have c1 : k = 0 := (nI_z (by omega)).mp c1
    refine lv_aload_n S.1 S.2.1 dX3_hypOf_4 rfl (lv_at hl 0 rfl) ?_
    refine gfX3_26 S hK hH m0 dX3_hypOf_5 ?_
    refine lv_iload_n S.1 S.2.1 dX3_hypOf_8 rfl (lv_at hl 1 rfl) ?_
    refine ald_i S hK hH m6 (by omega) (by omega) dX3_hypOf_9 ?_
    refine lv_goto (tgt := 47) S.1 S.2.1 dX3_hypOf_10 (by decide) ?_
    exact rt_i S hr hlk hH dX3_hypOf_47 (⟨rfl, rfl, by rw [c1]; rfl⟩)

