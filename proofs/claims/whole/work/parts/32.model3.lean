def ar (fc fh fl : Nat → Int64) (m : Nat) (F : Nat → Int) : Prop := ∃ A : Ar, Area fc fh fl A m ∧ ∀ c, sA A m c = F c
def fup (F : Nat → Int) (c : Nat) (k : Int) : Nat → Int := fun x => F x + (if c = x then k else 0)
theorem ar.cg {fc fh fl : Nat → Int64} {m : Nat} {F F' : Nat → Int} (h : ar fc fh fl m F) (e : ∀ x, F x = F' x) : ar fc fh fl m F' := by
  rw [← funext e]; exact h
theorem ar_0 {fc fh fl : Nat → Int64} : ar fc fh fl 0 (fun _ => 0) := ⟨fun _ => (0, 0), ⟨fun i h => absurd h (Nat.not_lt_zero i), fun i j h => absurd h (Nat.not_lt_zero i), fun i h => absurd h (Nat.not_lt_zero i)⟩, fun _ => rfl⟩
theorem ar.C {fc fh fl : Nat → Int64} {m : Nat} {F : Nat → Int} (h : ar fc fh fl m F) : CInv fc fh fl F m 0 0 := by
  obtain ⟨A, h1, h2⟩ := h
  exact ⟨A, h1, h2, fun x h => absurd h (Nat.not_lt_zero x), fun x _ h => absurd h (Nat.not_lt_zero x)⟩
theorem sA_at {A : Ar} {m i : Nat} (h : dis A m) (hi : i < m) : sA A m (A i).1 = (A i).2 := by
  unfold sA
  have h0 : sumN (fun _ => 0) m = 0 := sumN_zero (fun _ _ => rfl)
  have := sumN_up (f := fun x => if x = i then 0 else (if (A x).1 = (A i).1 then (A x).2 else 0)) (g := fun x => if (A x).1 = (A i).1 then (A x).2 else 0) hi (fun x _ q => (if_neg q).symm)
  rw [this, sumN_zero]
  · simp
  · intro x hx
    by_cases q : x = i
    · rw [if_pos q]
    · rw [if_neg q, if_neg (fun e => q (h x i hx hi e))]
theorem add_post {G : Gx} {w' : Wm} {M m : Nat} {k h l1 : Int64} {hc pc big : Int32} {fc fh fl : Nat → Int64} (hq : (∃ i, i < m ∧ fh i = h ∧ fl i = l1 ∧ w' M = some (MOb M hc pc (nI m) big) ∧ w' (M + 10) = some (eJ G 3700 (vp_updL fc i (fc i + k))) ∧ w' (M + 11) = some (eJ G 3700 fh) ∧ w' (M + 12) = some (eJ G 3700 fl)) ∨ ((∀ i, i < m → ¬ (fh i = h ∧ fl i = l1)) ∧ w' M = some (MOb M hc pc (nI (m + 1)) big) ∧ w' (M + 10) = some (eJ G 3700 (vp_updL (vp_updL fc m (lI 0)) m (lI 0 + k))) ∧ w' (M + 11) = some (eJ G 3700 (vp_updL fh m h)) ∧ w' (M + 12) = some (eJ G 3700 (vp_updL fl m l1)))) : ∃ (m9 : Nat) (fc' fh' fl' : Nat → Int64), m9 ≤ m + 1 ∧ w' M = some (MOb M hc pc (nI m9) big) ∧ w' (M + 10) = some (eJ G 3700 fc') ∧ w' (M + 11) = some (eJ G 3700 fh') ∧ w' (M + 12) = some (eJ G 3700 fl') ∧ ∀ (F : Nat → Int) (c : Nat) (k0 : Int), ar fc fh fl m F → vC c → h = lN (hiC c) → l1 = lN (loC c) → k = lI k0 → (-4611686018427387904 ≤ F c + k0 ∧ F c + k0 < 4611686018427387904) → ar fc' fh' fl' m9 (fup F c k0) := by
  rcases hq with ⟨i, hi, e1, e2, a0, a1, a2, a3⟩ | ⟨hn, a0, a1, a2, a3⟩
  · refine ⟨m, _, _, _, by omega, a0, a1, a2, a3, ?_⟩
    rintro F c k0 ⟨A, h1, h2⟩ hc rfl rfl rfl hb
    have hA := sA_at h1.2.1 hi
    have hcd : (A i).1 = c := by
      have b1 : hiC (A i).1 < 800000000000000000 := cv8_lt _
      have b2 : loC (A i).1 < 800000000000000000 := cv8_lt _
      have b3 : hiC c < 800000000000000000 := cv8_lt _
      have b4 : loC c < 800000000000000000 := cv8_lt _
      exact vC_inj (h1.2.2 i hi).1 hc ⟨(pk_lEQ (by omega) (by omega)).mp ((h1.1 i hi).2.1.symm.trans e1), (pk_lEQ (by omega) (by omega)).mp ((h1.1 i hi).2.2.symm.trans e2)⟩
    rw [hcd, h2] at hA
    obtain ⟨-, g2, g3⟩ := h1.hit (k := k0) hi hc e1 e2 (by rw [← hA]; exact hb)
    exact ⟨_, g2, fun x => by rw [g3, h2]; rfl⟩
  · refine ⟨m + 1, _, _, _, by omega, a0, a1, a2, a3, ?_⟩
    rintro F c k0 ⟨A, h1, h2⟩ hc rfl rfl rfl hb
    have hno : ∀ i, i < m → (A i).1 ≠ c := by
      intro i hi e
      refine hn i hi ⟨?_, ?_⟩
      · rw [(h1.1 i hi).2.1, e]
      · rw [(h1.1 i hi).2.2, e]
    have h0 : F c = 0 := by
      rw [← h2 c]
      exact sumN_zero (fun x hx => if_neg (hno x hx))
    obtain ⟨g1, -, g3⟩ := h1.new (k := k0) hc hn (by rw [h0] at hb; omega)
    exact ⟨_, g1, fun x => by rw [g3, h2]; rfl⟩
theorem co_b {L : PL} (h : okP L) (j x : Nat) : -99999999 ≤ co (L.take j) x ∧ co (L.take j) x ≤ 99999999 := by
  have hs : Srt (L.take j) := List.Pairwise.sublist (List.take_sublist j L) h.1
  by_cases q : ∃ t ∈ L.take j, t.1 = x
  · obtain ⟨t, ht, rfl⟩ := q
    rw [co_mem hs ht]
    exact (h.2.2 t (List.mem_of_mem_take ht)).2.2
  · rw [co_out (fun t ht e => q ⟨t, ht, e⟩)]; decide
theorem co_tk {L : PL} {j : Nat} (h : j < L.length) (x : Nat) : co (L.take (j + 1)) x = co (L.take j) x + (if cd L j = x then cf L j else 0) := by
  rw [take_cd h]
  generalize L.take j = T
  induction T with
  | nil => simp [co]
  | cons s T ih => rw [List.cons_append, co, ih, co]; omega
theorem sg_c {sg z : Int} (h : sg = 1 ∨ sg = -1) (hz : -99999999 ≤ z ∧ z ≤ 99999999) : -99999999 ≤ sg * z ∧ sg * z ≤ 99999999 := by
  rcases h with rfl | rfl <;> omega
theorem sum_b {L : PL} {sg f : Int} {j : Nat} (hok : okP L) (hsg : sg = 1 ∨ sg = -1) (hF : -1000000000000 ≤ f ∧ f ≤ 1000000000000) (hj : j < L.length) : -4611686018427387904 ≤ f + sg * co (L.take j) (cd L j) + sg * cf L j ∧ f + sg * co (L.take j) (cd L j) + sg * cf L j < 4611686018427387904 := by
  have h1 := sg_c hsg (co_b hok j (cd L j))
  have h2 := sg_c hsg (hok.2.2 _ (cd_mem hj)).2.2
  have h3 : -99999999 ≤ sg * cf L j ∧ sg * cf L j ≤ 99999999 := h2
  omega
theorem sum_st {F : Nat → Int} {L : PL} {sg : Int} {j x : Nat} (hj : j < L.length) : fup (fun x => F x + sg * co (L.take j) x) (cd L j) (sg * cf L j) x = F x + sg * co (L.take (j + 1)) x := by
  show F x + sg * co (L.take j) x + (if cd L j = x then sg * cf L j else 0) = _
  rw [co_tk hj]
  by_cases q : cd L j = x
  · rw [if_pos q, if_pos q, Int.mul_add]; omega
  · rw [if_neg q, if_neg q]; simp
theorem sum_b1 {L : PL} {x : Nat} (hok : okP L) : -1000000000000 ≤ 0 + 1 * co L x ∧ 0 + 1 * co L x ≤ 1000000000000 := by
  have := co_b hok L.length x
  rw [List.take_of_length_le (Nat.le_refl _)] at this
  omega
theorem sum_A {fc fh fl : Nat → Int64} {m : Nat} {X Y : PL} {sg : Int} (h : ar fc fh fl m (fun x => 0 + 1 * co X x + sg * co Y x)) (hX : okP X) (hY : okP Y) : CInv fc fh fl (fun x => 0 + 1 * co X x + sg * co Y x) m 0 0 ∧ Srt (nz (tstr sg (X.length + Y.length) X Y)) ∧ (∀ t ∈ nz (tstr sg (X.length + Y.length) X Y), t.2 ≠ 0 ∧ vC t.1) ∧ ∀ c, co (nz (tstr sg (X.length + Y.length) X Y)) c = (fun x => 0 + 1 * co X x + sg * co Y x) c := by
  obtain ⟨-, i2, i3, i4⟩ := tstr_ok sg (X.length + Y.length) X Y hX.1 hY.1 (Nat.le_refl _)
  refine ⟨h.C, srt_nz i2, fun t ht => ⟨nz_ne t ht, ?_⟩, fun c => by rw [co_nz, i3]; show _ = 0 + 1 * co X c + sg * co Y c; omega⟩
  rcases i4 t (List.mem_filter.mp ht).1 with ⟨s, hs, e⟩ | ⟨s, hs, e⟩
  · rw [← e]; exact (hX.2.2 s hs).1
  · rw [← e]; exact (hY.2.2 s hs).1
theorem to_Q {ma : Nat → Int32} {gc gh gl : Nat → Int64} {Sl : Nat → PL} {z : Nat} {L : PL} {r big : Int32} (hb : big = 0) (h : (r = 1 ∧ big = 0 ∧ cut 60 L = some L ∧ SlotsOK ma gc gh gl (va_up Sl z L)) ∨ (r = 0 ∧ (big = 0 → cut 60 L = none) ∧ SlotsOK ma gc gh gl Sl)) : (r = 1 ∧ ∃ K, cut 60 L = some K ∧ SlotsOK ma gc gh gl (va_up Sl z K)) ∨ (r = 0 ∧ cut 60 L = none ∧ SlotsOK ma gc gh gl Sl) := by
  rcases h with ⟨e, _, e2, e3⟩ | ⟨e, e2, e3⟩
  · exact Or.inl ⟨e, L, e2, e3⟩
  · exact Or.inr ⟨e, e2 hb, e3⟩
theorem sum_Q {ma : Nat → Int32} {gc gh gl : Nat → Int64} {Sl : Nat → PL} {z : Nat} {X Y : PL} {sg : Int} {r : Int32} (h : (r = 1 ∧ nI 0 = 0 ∧ cut 60 (nz (tstr sg (X.length + Y.length) X Y)) = some (nz (tstr sg (X.length + Y.length) X Y)) ∧ SlotsOK ma gc gh gl (va_up Sl z (nz (tstr sg (X.length + Y.length) X Y)))) ∨ (r = 0 ∧ (nI 0 = 0 → cut 60 (nz (tstr sg (X.length + Y.length) X Y)) = none) ∧ SlotsOK ma gc gh gl Sl)) : (r = 1 ∧ ∃ K, padd sg X Y = some K ∧ SlotsOK ma gc gh gl (va_up Sl z K)) ∨ (r = 0 ∧ padd sg X Y = none ∧ SlotsOK ma gc gh gl Sl) := by
  rw [padd_cut]
  exact to_Q rfl h
theorem whole_Q {ma : Nat → Int32} {gc gh gl : Nat → Int64} {Sl : Nat → PL} {z : Nat} {L : PL} {r : Int32} (h : (r = 1 ∧ nI 0 = 0 ∧ cut 60 L = some L ∧ SlotsOK ma gc gh gl (va_up Sl z L)) ∨ (r = 0 ∧ (nI 0 = 0 → cut 60 L = none) ∧ SlotsOK ma gc gh gl Sl)) : (r = 1 ∧ ∃ K, cut 60 L = some K ∧ SlotsOK ma gc gh gl (va_up Sl z K)) ∨ (r = 0 ∧ cut 60 L = none ∧ SlotsOK ma gc gh gl Sl) := to_Q rfl h
theorem whole_A {fc fh fl : Nat → Int64} {m : Nat} {v : Int} (h : ar fc fh fl m (fup (fun _ => 0) 0 v)) (hv : v ≠ 0) : CInv fc fh fl (fup (fun _ => 0) 0 v) m 0 0 ∧ Srt (one 0 v) ∧ (∀ t ∈ one 0 v, t.2 ≠ 0 ∧ vC t.1) ∧ ∀ c, co (one 0 v) c = fup (fun _ => 0) 0 v c := by
  have e : one 0 v = [(0, v)] := by unfold one; rw [if_neg hv]
  rw [e]
  refine ⟨h.C, srt_cons.mpr ⟨fun s hs => (by cases hs), srt_nil⟩, fun t ht => ?_, fun c => by simp [co, fup]⟩
  rw [List.mem_singleton.mp ht]
  exact ⟨hv, vC_0⟩
theorem whole_B {fc fh fl : Nat → Int64} {v : Int} (hv : v = 0) : CInv fc fh fl (fup (fun _ => 0) 0 v) 0 0 0 ∧ Srt (one 0 v) ∧ (∀ t ∈ one 0 v, t.2 ≠ 0 ∧ vC t.1) ∧ ∀ c, co (one 0 v) c = fup (fun _ => 0) 0 v c := by
  subst hv
  have e : one 0 0 = [] := by unfold one; rw [if_pos rfl]
  rw [e]
  exact ⟨(ar_0.cg (fun x => by unfold fup; split <;> rfl)).C, srt_nil, fun t ht => (by cases ht), fun c => by unfold fup; split <;> rfl⟩
theorem slots_cp {gc gh gl gc2 gh2 gl2 : Nat → Int64} {ma : Nat → Int32} {Sl : Nat → PL} {a z : Nat} (hsl : SlotsOK ma gc gh gl Sl) (ha : a < 62) (hz : z < 62) (hc : CpI gc gh gl gc2 gh2 gl2 (fun x => lI (cf (Sl a) x)) (fun x => lN (hiC (cd (Sl a) x))) (fun x => lN (loC (cd (Sl a) x))) z (Sl a).length) : SlotsOK (upd ma z (nI (Sl a).length)) gc2 gh2 gl2 (va_up Sl z (Sl a)) := by
  have hla := (hsl a ha).1.2.1
  intro y hy
  by_cases q : y = z
  · subst q
    rw [va_up_self, pk_us]
    exact ⟨(hsl a ha).1, rfl, fun j hj => hc.1 j hj⟩
  · rw [va_up_ne _ _ q, pk_un q]
    obtain ⟨h1, h2, h3⟩ := hsl y hy
    refine ⟨h1, h2, fun j hj => ?_⟩
    have hl := h1.2.1
    have h4 := hc.2 (60 * y + j) (by omega)
    rw [h4.1, h4.2.1, h4.2.2]
    exact h3 j hj

set_option maxHeartbeats 4000000 in
set_option maxRecDepth 100000 in
theorem kX3_addAll {l : Launch} {G : Gx} {B : Nat} {w : Wm} {n : Nat} (M z m : Nat) (sg : Int) (F : Nat → Int) (Sl : Nat → PL) (hc pc big : Int32) (ma : Nat → Int32) (gc gh gl fc fh fl : Nat → Int64) (m0 : w M = some (MOb M hc pc (nI m) big)) (m1 : w (M + 1) = some (eI G 62 ma)) (m2 : w (M + 2) = some (eJ G 3720 gc)) (m3 : w (M + 3) = some (eJ G 3720 gh)) (m4 : w (M + 4) = some (eJ G 3720 gl)) (m10 : w (M + 10) = some (eJ G 3700 fc)) (m11 : w (M + 11) = some (eJ G 3700 fh)) (m12 : w (M + 12) = some (eJ G 3700 fl)) (hz : z < 62) (hm : m ≤ 120) (hsl : SlotsOK ma gc gh gl Sl) (hsg : sg = 1 ∨ sg = -1) (har : ar fc fh fl m F) (hF0 : ∀ x, -1000000000000 ≤ F x ∧ F x ≤ 1000000000000) : Met l yX3_addAll (wsM yX3_addAll cX3_addAll 5 none) ({ frames := 1, cells := 0, slots := 0, locals := 27 } : Room) (Pcx G B w n [.ref (M), .int (nI z), .long (lI sg)]) (Qv G B (fun w' n' => n' = n ∧ (∀ b, (b ≠ M ∧ b ≠ M + 10 ∧ b ≠ M + 11 ∧ b ≠ M + 12) → w' b = w b) ∧ ∃ m' fc' fh' fl', m' ≤ m + 60 ∧ w' M = some (MOb M hc pc (nI m') big) ∧ w' (M + 10) = some (eJ G 3700 fc') ∧ w' (M + 11) = some (eJ G 3700 fh') ∧ w' (M + 12) = some (eJ G 3700 fl') ∧ ar fc' fh' fl' m' (fun x => F x + sg * co (Sl z) x))) 0 0 (FA B) := by
  refine en (by decide) (Nat.le_of_ble_eq_true rfl) ?_
  intro p ev s mm ag bl mt cde S hr hlk hnm hK H hH ls hl
  have hl : lv_has ls 5 [(0, .ref (M)), (1, .int (nI z)), (2, .long (lI sg))] := hl
  obtain ⟨hok, hmz, hsz⟩ := hsl z hz
  have hlen := hok.2.1
  obtain ⟨L, hL⟩ : ∃ L, L = Sl z := ⟨_, rfl⟩
  rw [← hL] at hok hmz hsz hlen ⊢
  obtain ⟨mS, hmS⟩ : ∃ mS, mS = m := ⟨_, rfl⟩
  have hF : ∀ b, b ≠ M ∧ b ≠ M + 10 ∧ b ≠ M + 11 ∧ b ≠ M + 12 → w b = w b := fun _ _ => rfl
  refine lv_bipush (v := nI 60) S.1 S.2.1 dX3_addAll_0 (by decide) ?_
  refine lv_iload_n S.1 S.2.1 dX3_addAll_2 rfl (lv_at hl 1 rfl) ?_
  refine lv_imul S.1 S.2.1 dX3_addAll_3 ?_
  refine tpi (x' := nI (60 * z)) (pk_mul _ _) ?_
  refine lv_istore (lv' := [(4, .int (nI (60 * z))), (0, .ref (M)), (1, .int (nI z)), (2, .long (lI sg))]) S.1 S.2.1 dX3_addAll_4 hl (by decide) rfl (fun ls hl => ?_)
  refine wlp (P := fun k_ ls H' locs' => ∃ (j m : Nat) (fc fh fl : Nat → Int64) (v : Wm), lv_has ls 5 [(0, .ref (M)), (1, .int (nI z)), (2, .long (lI sg)), (4, .int (nI (60 * z + j)))] ∧ HS G B v (n) s H' locs' ∧ v (M) = some (eO 3 [.ref (M + 1), .ref (M + 2), .ref (M + 3), .ref (M + 4), .int (hc), .int (pc), .ref (M + 5), .ref (M + 6), .ref (M + 7), .ref (M + 8), .ref (M + 9), .int (nI m), .int (big), .ref (M + 10), .ref (M + 11), .ref (M + 12)]) ∧ v (M + 1) = some (eI G (62) (ma)) ∧ v (M + 2) = some (eJ G (3720) (gc)) ∧ v (M + 3) = some (eJ G (3720) (gh)) ∧ v (M + 4) = some (eJ G (3720) (gl)) ∧ v (M + 10) = some (eJ G (3700) (fc)) ∧ v (M + 11) = some (eJ G (3700) (fh)) ∧ v (M + 12) = some (eJ G (3700) (fl)) ∧ (∀ b, b ≠ M ∧ b ≠ M + 10 ∧ b ≠ M + 11 ∧ b ≠ M + 12 → v b = w b) ∧ (j ≤ L.length) ∧ (m ≤ mS + j) ∧ (ar fc fh fl m (fun x => F x + sg * co (L.take j) x)) ∧ k_ = L.length - j) ?_ (k0 := L.length - (0)) ⟨0, m, fc, fh, fl, w, lv_sub hl [1, 2, 3, 0] rfl, hH, m0, m1, m2, m3, m4, m10, m11, m12, hF, by omega, by omega, har.cg (fun x => by simp [co]), rfl⟩
  intro k6 ls H locs hP ih6
  obtain ⟨j, m, fc, fh, fl, v, hl, hH, m0, m1, m2, m3, m4, m10, m11, m12, hF, hj, hmj, har, hk6⟩ := hP
  refine lv_iload S.1 S.2.1 dX3_addAll_6 (lv_at hl 3 rfl) ?_
  refine lv_bipush (v := nI 60) S.1 S.2.1 dX3_addAll_8 (by decide) ?_
  refine lv_iload_n S.1 S.2.1 dX3_addAll_10 rfl (lv_at hl 1 rfl) ?_
  refine lv_imul S.1 S.2.1 dX3_addAll_11 ?_
  refine tpi (x' := nI (60 * z)) (pk_mul _ _) ?_
  refine lv_aload_n S.1 S.2.1 dX3_addAll_12 rfl (lv_at hl 0 rfl) ?_
  refine gfX3_9 S hK hH m0 dX3_addAll_13 ?_
  refine lv_iload_n S.1 S.2.1 dX3_addAll_16 rfl (lv_at hl 1 rfl) ?_
  refine ald_i S hK hH m1 (by omega) (by omega) dX3_addAll_17 ?_
  refine tpi (x' := nI L.length) (hmz) ?_
  refine lv_iadd S.1 S.2.1 dX3_addAll_18 ?_
  refine tpi (x' := nI (60 * z + L.length)) (nI_add _ _) ?_
  refine bn_ge (tgt := 55) S dX3_addAll_19 (by decide) (by omega) (fun c19 => ?_) (fun c19 => ?_)
  · skip
    exact rt_v S hr hlk hH dX3_addAll_55 (⟨rfl, hF, m, fc, fh, fl, by omega, m0, m10, m11, m12, har.cg (fun x => by rw [List.take_of_length_le (by omega)])⟩)
  · skip
    refine lv_aload_n S.1 S.2.1 dX3_addAll_22 rfl (lv_at hl 0 rfl) ?_
    refine lv_lload_n S.1 S.2.1 dX3_addAll_23 rfl (lv_at hl 2 rfl) ?_
    refine lv_aload_n S.1 S.2.1 dX3_addAll_24 rfl (lv_at hl 0 rfl) ?_
    refine gfX3_13 S hK hH m0 dX3_addAll_25 ?_
    refine lv_iload S.1 S.2.1 dX3_addAll_28 (lv_at hl 3 rfl) ?_
    refine ald_l S hK hH m2 (by omega) (by omega) dX3_addAll_30 ?_
    refine tpl (x' := lI (cf L j)) ((hsz j (by omega)).1) ?_
    refine lv_lmul S.1 S.2.1 dX3_addAll_31 ?_
    refine tpl (x' := lI (sg * cf L j)) (lI_mul _ _) ?_
    refine lv_aload_n S.1 S.2.1 dX3_addAll_32 rfl (lv_at hl 0 rfl) ?_
    refine gfX3_17 S hK hH m0 dX3_addAll_33 ?_
    refine lv_iload S.1 S.2.1 dX3_addAll_36 (lv_at hl 3 rfl) ?_
    refine ald_l S hK hH m3 (by omega) (by omega) dX3_addAll_38 ?_
    refine tpl (x' := lN (hiC (cd L j))) ((hsz j (by omega)).2.1) ?_
    refine lv_aload_n S.1 S.2.1 dX3_addAll_39 rfl (lv_at hl 0 rfl) ?_
    refine gfX3_20 S hK hH m0 dX3_addAll_40 ?_
    refine lv_iload S.1 S.2.1 dX3_addAll_43 (lv_at hl 3 rfl) ?_
    refine ald_l S hK hH m4 (by omega) (by omega) dX3_addAll_45 ?_
    refine tpl (x' := lN (loC (cd L j))) ((hsz j (by omega)).2.2) ?_
    refine ck_v (run_V (As := [.long (lI (sg * cf L j)), .long (lN (hiC (cd L j))), .long (lN (loC (cd L j)))]) (rest := []) S hK hH (kX3_add M m (lI (sg * cf L j)) (lN (hiC (cd L j))) (lN (loC (cd L j))) hc pc big fc fh fl m0 m10 m11 m12 (by omega)) ceX3_add mW361 m0 rfl rfl hl.1 rfl (Nat.le_of_ble_eq_true rfl) dX3_addAll_46 ⟨rfl, rfl, by decide, by decide⟩ ⟨show 0 + 0 ≤ 0 by omega, show 0 + 0 ≤ 0 by omega⟩) hH (fun w1 n1 H locs hp hH => ?_)
    obtain ⟨hn1, hfr, hq9⟩ := hp
    rw [hn1] at hH
    replace hq9 : Hid _ := hq9
    obtain ⟨m9, fc, fh, fl, hm9, m0, m10, m11, m12, har9⟩ := add_post hq9
    replace m1 := (hfr (M + 1) (by omega)).trans m1
    replace m2 := (hfr (M + 2) (by omega)).trans m2
    replace m3 := (hfr (M + 3) (by omega)).trans m3
    replace m4 := (hfr (M + 4) (by omega)).trans m4
    replace hF : ∀ b, b ≠ M ∧ b ≠ M + 10 ∧ b ≠ M + 11 ∧ b ≠ M + 12 → w1 b = w b := fun b hb => (hfr b (by omega)).trans (hF b hb)
    refine lv_iinc (v := nI (60 * z + j + 1)) (lv' := [(4, .int (nI (60 * z + j + 1))), (0, .ref (M)), (1, .int (nI z)), (2, .long (lI sg))]) S.1 S.2.1 dX3_addAll_49 hl (k := 3) rfl (nI_inc _ 1) (by decide) rfl (fun ls hl => ?_)
    refine lv_goto (tgt := 6) S.1 S.2.1 dX3_addAll_52 (by decide) ?_
    exact ih6 _ _ _ _ (by omega) ⟨j + 1, m9, _, _, _, w1, lv_sub hl [1, 2, 3, 0] rfl, hH, m0, m1, m2, m3, m4, m10, m11, m12, hF, by omega, by omega, (har9 _ _ _ har (hok.2.2 _ (cd_mem (by omega))).1 rfl rfl rfl (sum_b hok hsg (hF0 _) (by omega))).cg (fun x => sum_st (by omega)), rfl⟩

set_option maxHeartbeats 4000000 in
set_option maxRecDepth 100000 in
theorem kX3_sum {l : Launch} {G : Gx} {B : Nat} {w : Wm} {n : Nat} (M z a b : Nat) (sg : Int) (Sl : Nat → PL) (hc pc cnt big : Int32) (ma : Nat → Int32) (gc gh gl fc fh fl : Nat → Int64) (m0 : w M = some (MOb M hc pc cnt big)) (m1 : w (M + 1) = some (eI G 62 ma)) (m2 : w (M + 2) = some (eJ G 3720 gc)) (m3 : w (M + 3) = some (eJ G 3720 gh)) (m4 : w (M + 4) = some (eJ G 3720 gl)) (m10 : w (M + 10) = some (eJ G 3700 fc)) (m11 : w (M + 11) = some (eJ G 3700 fh)) (m12 : w (M + 12) = some (eJ G 3700 fl)) (hz : z < 62) (ha : a < 62) (hb : b < 62) (hsl : SlotsOK ma gc gh gl Sl) (hsg : sg = 1 ∨ sg = -1) : Met l yX3_sum (wsM yX3_sum cX3_sum 6 (some .boolean)) ({ frames := 3, cells := 0, slots := 0, locals := 74 } : Room) (Pcx G B w n [.ref (M), .int (nI z), .int (nI a), .int (nI b), .long (lI sg)]) (Qi G B (fun r w' n' => n' = n ∧ (∀ b, (b < M ∨ M + 13 ≤ b ∨ (M + 5 ≤ b ∧ b < M + 10)) → w' b = w b) ∧ ∃ cnt' big' fc' fh' fl' ma' gc' gh' gl', w' M = some (MOb M hc pc cnt' big') ∧ w' (M + 10) = some (eJ G 3700 fc') ∧ w' (M + 11) = some (eJ G 3700 fh') ∧ w' (M + 12) = some (eJ G 3700 fl') ∧ w' (M + 1) = some (eI G 62 ma') ∧ w' (M + 2) = some (eJ G 3720 gc') ∧ w' (M + 3) = some (eJ G 3720 gh') ∧ w' (M + 4) = some (eJ G 3720 gl') ∧ ((r = 1 ∧ ∃ K, padd sg (Sl a) (Sl b) = some K ∧ SlotsOK ma' gc' gh' gl' (va_up Sl z K)) ∨ (r = 0 ∧ padd sg (Sl a) (Sl b) = none ∧ SlotsOK ma' gc' gh' gl' Sl)))) 0 0 (FA B) := by
  refine en (by decide) (Nat.le_of_ble_eq_true rfl) ?_
  intro p ev s mm ag bl mt cde S hr hlk hnm hK H hH ls hl
  have hl : lv_has ls 6 [(0, .ref (M)), (1, .int (nI z)), (2, .int (nI a)), (3, .int (nI b)), (4, .long (lI sg))] := hl
  have hF : ∀ b, b < M ∨ M + 13 ≤ b ∨ (M + 5 ≤ b ∧ b < M + 10) → w b = w b := fun _ _ => rfl
  refine lv_aload_n S.1 S.2.1 dX3_sum_0 rfl (lv_at hl 0 rfl) ?_
  refine ck_v (run_V (As := []) (rest := []) S hK hH (kX3_begin M hc pc cnt big m0) ceX3_begin mW357 m0 rfl rfl hl.1 rfl (Nat.le_of_ble_eq_true rfl) dX3_sum_1 ⟨rfl, rfl, by decide, by decide⟩ ⟨show 0 + 0 ≤ 0 by omega, show 0 + 0 ≤ 0 by omega⟩) hH (fun w1 n1 H locs hp hH => ?_)
  obtain ⟨hn1, hfr, m0⟩ := hp
  rw [hn1] at hH
  replace m1 := (hfr (M + 1) (by omega)).trans m1
  replace m2 := (hfr (M + 2) (by omega)).trans m2
  replace m3 := (hfr (M + 3) (by omega)).trans m3
  replace m4 := (hfr (M + 4) (by omega)).trans m4
  replace m10 := (hfr (M + 10) (by omega)).trans m10
  replace m11 := (hfr (M + 11) (by omega)).trans m11
  replace m12 := (hfr (M + 12) (by omega)).trans m12
  replace hF : ∀ b, b < M ∨ M + 13 ≤ b ∨ (M + 5 ≤ b ∧ b < M + 10) → w1 b = w b := fun b hb => (hfr b (by omega)).trans (hF b hb)
  refine lv_aload_n S.1 S.2.1 dX3_sum_4 rfl (lv_at hl 0 rfl) ?_
  refine lv_iload_n S.1 S.2.1 dX3_sum_5 rfl (lv_at hl 2 rfl) ?_
  refine lv_lconst (v := lI 1) S.1 S.2.1 dX3_sum_6 (by decide) ?_
  refine ck_v (run_V (As := [.int (nI a), .long (lI 1)]) (rest := []) S hK hH (kX3_addAll M a 0 (1) (fun _ => 0) Sl hc pc (nI 0) ma gc gh gl fc fh fl m0 m1 m2 m3 m4 m10 m11 m12 (ha) (by omega) hsl (Or.inl rfl) (ar_0) (fun _ => by omega)) ceX3_addAll mW395 m0 rfl rfl hl.1 rfl (Nat.le_of_ble_eq_true rfl) dX3_sum_7 ⟨rfl, rfl, by decide, by decide⟩ ⟨show 0 + 0 ≤ 0 by omega, show 0 + 0 ≤ 0 by omega⟩) hH (fun w2 n2 H locs hp hH => ?_)
  obtain ⟨hn1, hfr, ⟨m9, fc, fh, fl, hm9, m0, m10, m11, m12, har⟩⟩ := hp
  rw [hn1] at hH
  replace m1 := (hfr (M + 1) (by omega)).trans m1
  replace m2 := (hfr (M + 2) (by omega)).trans m2
  replace m3 := (hfr (M + 3) (by omega)).trans m3
  replace m4 := (hfr (M + 4) (by omega)).trans m4
  replace hF : ∀ b, b < M ∨ M + 13 ≤ b ∨ (M + 5 ≤ b ∧ b < M + 10) → w2 b = w b := fun b hb => (hfr b (by omega)).trans (hF b hb)
  refine lv_aload_n S.1 S.2.1 dX3_sum_10 rfl (lv_at hl 0 rfl) ?_
  refine lv_iload_n S.1 S.2.1 dX3_sum_11 rfl (lv_at hl 3 rfl) ?_
  refine lv_lload S.1 S.2.1 dX3_sum_12 (lv_at hl 4 rfl) ?_
  refine ck_v (run_V (As := [.int (nI b), .long (lI sg)]) (rest := []) S hK hH (kX3_addAll M b m9 (sg) (fun x => 0 + 1 * co (Sl a) x) Sl hc pc (nI 0) ma gc gh gl fc fh fl m0 m1 m2 m3 m4 m10 m11 m12 (hb) (by omega) hsl (hsg) (har) (fun x => sum_b1 (hsl a ha).1)) ceX3_addAll mW395 m0 rfl rfl hl.1 rfl (Nat.le_of_ble_eq_true rfl) dX3_sum_14 ⟨rfl, rfl, by decide, by decide⟩ ⟨show 0 + 0 ≤ 0 by omega, show 0 + 0 ≤ 0 by omega⟩) hH (fun w3 n3 H locs hp hH => ?_)
  obtain ⟨hn1, hfr, ⟨m9, fc, fh, fl, hm9, m0, m10, m11, m12, har⟩⟩ := hp
  rw [hn1] at hH
  replace m1 := (hfr (M + 1) (by omega)).trans m1
  replace m2 := (hfr (M + 2) (by omega)).trans m2
  replace m3 := (hfr (M + 3) (by omega)).trans m3
  replace m4 := (hfr (M + 4) (by omega)).trans m4
  replace hF : ∀ b, b < M ∨ M + 13 ≤ b ∨ (M + 5 ≤ b ∧ b < M + 10) → w3 b = w b := fun b hb => (hfr b (by omega)).trans (hF b hb)
  refine lv_aload_n S.1 S.2.1 dX3_sum_17 rfl (lv_at hl 0 rfl) ?_
  refine lv_iload_n S.1 S.2.1 dX3_sum_18 rfl (lv_at hl 1 rfl) ?_
  refine ck_i (run_V (As := [.int (nI z)]) (rest := []) S hK hH (kX3_to M (z) m9 (fun x => 0 + 1 * co (Sl a) x + sg * co (Sl b) x) (nz (tstr sg ((Sl a).length + (Sl b).length) (Sl a) (Sl b))) Sl hc pc (nI 0) ma gc gh gl fc fh fl m0 m1 m2 m3 m4 m10 m11 m12 hz (by omega) hsl (fun _ => sum_A har (hsl a ha).1 (hsl b hb).1)) ceX3_to mW365 m0 rfl rfl hl.1 rfl (Nat.le_of_ble_eq_true rfl) dX3_sum_19 ⟨rfl, rfl, by decide, by decide⟩ ⟨show 0 + 0 ≤ 0 by omega, show 0 + 0 ≤ 0 by omega⟩) hH (fun r19 w4 n4 H locs hp hH => ?_)
  obtain ⟨hn1, hfr, ⟨⟨cnt9, fc, fh, fl, m0, m10, m11, m12⟩, ma9, gc9, gh9, gl9, m1, m2, m3, m4, hq5⟩⟩ := hp
  rw [hn1] at hH
  replace hq5 : Hid _ := hq5
  replace hF : ∀ b, b < M ∨ M + 13 ≤ b ∨ (M + 5 ≤ b ∧ b < M + 10) → w4 b = w b := fun b hb => (hfr b (by omega)).trans (hF b hb)
  exact rt_z S hr hlk hH dX3_sum_22 (by rcases hq5 with ⟨e, _⟩ | ⟨e, _⟩ <;> simp [e]) (⟨rfl, hF, _, _, _, _, _, _, _, _, _, m0, m10, m11, m12, m1, m2, m3, m4, sum_Q hq5⟩)

set_option maxHeartbeats 4000000 in
set_option maxRecDepth 100000 in
theorem kX3_whole {l : Launch} {G : Gx} {B : Nat} {w : Wm} {n : Nat} (M z : Nat) (v : Int) (Sl : Nat → PL) (hc pc cnt big : Int32) (ma : Nat → Int32) (gc gh gl fc fh fl : Nat → Int64) (m0 : w M = some (MOb M hc pc cnt big)) (m1 : w (M + 1) = some (eI G 62 ma)) (m2 : w (M + 2) = some (eJ G 3720 gc)) (m3 : w (M + 3) = some (eJ G 3720 gh)) (m4 : w (M + 4) = some (eJ G 3720 gl)) (m10 : w (M + 10) = some (eJ G 3700 fc)) (m11 : w (M + 11) = some (eJ G 3700 fh)) (m12 : w (M + 12) = some (eJ G 3700 fl)) (hz : z < 62) (hsl : SlotsOK ma gc gh gl Sl) (hv : -2147483648 ≤ v ∧ v < 2147483648) : Met l yX3_whole (wsM yX3_whole cX3_whole 4 (some .boolean)) ({ frames := 3, cells := 0, slots := 0, locals := 74 } : Room) (Pcx G B w n [.ref (M), .int (nI z), .long (lI v)]) (Qi G B (fun r w' n' => n' = n ∧ (∀ b, (b < M ∨ M + 13 ≤ b ∨ (M + 5 ≤ b ∧ b < M + 10)) → w' b = w b) ∧ ∃ cnt' big' fc' fh' fl' ma' gc' gh' gl', w' M = some (MOb M hc pc cnt' big') ∧ w' (M + 10) = some (eJ G 3700 fc') ∧ w' (M + 11) = some (eJ G 3700 fh') ∧ w' (M + 12) = some (eJ G 3700 fl') ∧ w' (M + 1) = some (eI G 62 ma') ∧ w' (M + 2) = some (eJ G 3720 gc') ∧ w' (M + 3) = some (eJ G 3720 gh') ∧ w' (M + 4) = some (eJ G 3720 gl') ∧ ((r = 1 ∧ ∃ K, cut 60 (one 0 v) = some K ∧ SlotsOK ma' gc' gh' gl' (va_up Sl z K)) ∨ (r = 0 ∧ cut 60 (one 0 v) = none ∧ SlotsOK ma' gc' gh' gl' Sl)))) 0 0 (FA B) := by
  refine en (by decide) (Nat.le_of_ble_eq_true rfl) ?_
  intro p ev s mm ag bl mt cde S hr hlk hnm hK H hH ls hl
  have hl : lv_has ls 4 [(0, .ref (M)), (1, .int (nI z)), (2, .long (lI v))] := hl
  have hF : ∀ b, b < M ∨ M + 13 ≤ b ∨ (M + 5 ≤ b ∧ b < M + 10) → w b = w b := fun _ _ => rfl
  refine lv_aload_n S.1 S.2.1 dX3_whole_0 rfl (lv_at hl 0 rfl) ?_
  refine ck_v (run_V (As := []) (rest := []) S hK hH (kX3_begin M hc pc cnt big m0) ceX3_begin mW357 m0 rfl rfl hl.1 rfl (Nat.le_of_ble_eq_true rfl) dX3_whole_1 ⟨rfl, rfl, by decide, by decide⟩ ⟨show 0 + 0 ≤ 0 by omega, show 0 + 0 ≤ 0 by omega⟩) hH (fun w1 n1 H locs hp hH => ?_)
  obtain ⟨hn1, hfr, m0⟩ := hp
  rw [hn1] at hH
  replace m1 := (hfr (M + 1) (by omega)).trans m1
  replace m2 := (hfr (M + 2) (by omega)).trans m2
  replace m3 := (hfr (M + 3) (by omega)).trans m3
  replace m4 := (hfr (M + 4) (by omega)).trans m4
  replace m10 := (hfr (M + 10) (by omega)).trans m10
  replace m11 := (hfr (M + 11) (by omega)).trans m11
  replace m12 := (hfr (M + 12) (by omega)).trans m12
  replace hF : ∀ b, b < M ∨ M + 13 ≤ b ∨ (M + 5 ≤ b ∧ b < M + 10) → w1 b = w b := fun b hb => (hfr b (by omega)).trans (hF b hb)
  refine lv_lload_n S.1 S.2.1 dX3_whole_4 rfl (lv_at hl 2 rfl) ?_
  refine lv_lconst (v := lI 0) S.1 S.2.1 dX3_whole_5 (by decide) ?_
  refine bl_eq (tgt := 17) S dX3_whole_6 dX3_whole_7 (by decide) (fun c6 => ?_) (fun c6 => ?_)
  · skip
    have c6 : v = 0 := (lI_eq (by omega) (by omega)).mp c6
    refine lv_aload_n S.1 S.2.1 dX3_whole_17 rfl (lv_at hl 0 rfl) ?_
    refine lv_iload_n S.1 S.2.1 dX3_whole_18 rfl (lv_at hl 1 rfl) ?_
    refine ck_i (run_V (As := [.int (nI z)]) (rest := []) S hK hH (kX3_to M (z) 0 (fup (fun _ => 0) 0 v) (one 0 v) Sl hc pc (nI 0) ma gc gh gl fc fh fl m0 m1 m2 m3 m4 m10 m11 m12 hz (by omega) hsl (fun _ => whole_B c6)) ceX3_to mW365 m0 rfl rfl hl.1 rfl (Nat.le_of_ble_eq_true rfl) dX3_whole_19 ⟨rfl, rfl, by decide, by decide⟩ ⟨show 0 + 0 ≤ 0 by omega, show 0 + 0 ≤ 0 by omega⟩) hH (fun r19 w2 n2 H locs hp hH => ?_)
    obtain ⟨hn1, hfr, ⟨⟨cnt9, fc, fh, fl, m0, m10, m11, m12⟩, ma9, gc9, gh9, gl9, m1, m2, m3, m4, hq5⟩⟩ := hp
    rw [hn1] at hH
    replace hq5 : Hid _ := hq5
    replace hF : ∀ b, b < M ∨ M + 13 ≤ b ∨ (M + 5 ≤ b ∧ b < M + 10) → w2 b = w b := fun b hb => (hfr b (by omega)).trans (hF b hb)
    exact rt_z S hr hlk hH dX3_whole_22 (by rcases hq5 with ⟨e, _⟩ | ⟨e, _⟩ <;> simp [e]) (⟨rfl, hF, _, _, _, _, _, _, _, _, _, m0, m10, m11, m12, m1, m2, m3, m4, whole_Q hq5⟩)
  · skip
    have c6 : v ≠ 0 := fun e => c6 (by rw [e])
    refine lv_aload_n S.1 S.2.1 dX3_whole_10 rfl (lv_at hl 0 rfl) ?_
    refine lv_lload_n S.1 S.2.1 dX3_whole_11 rfl (lv_at hl 2 rfl) ?_
    refine lv_lconst (v := lI 0) S.1 S.2.1 dX3_whole_12 (by decide) ?_
    refine tpl (x' := lN (hiC 0)) (rfl) ?_
    refine lv_lconst (v := lI 0) S.1 S.2.1 dX3_whole_13 (by decide) ?_
    refine tpl (x' := lN (loC 0)) (rfl) ?_
    refine ck_v (run_V (As := [.long (lI v), .long (lN (hiC 0)), .long (lN (loC 0))]) (rest := []) S hK hH (kX3_add M 0 (lI v) (lN (hiC 0)) (lN (loC 0)) hc pc (nI 0) fc fh fl m0 m10 m11 m12 (by omega)) ceX3_add mW361 m0 rfl rfl hl.1 rfl (Nat.le_of_ble_eq_true rfl) dX3_whole_14 ⟨rfl, rfl, by decide, by decide⟩ ⟨show 0 + 0 ≤ 0 by omega, show 0 + 0 ≤ 0 by omega⟩) hH (fun w3 n3 H locs hp hH => ?_)
    obtain ⟨hn1, hfr, hq9⟩ := hp
    rw [hn1] at hH
    replace hq9 : Hid _ := hq9
    obtain ⟨m9, fc, fh, fl, hm9, m0, m10, m11, m12, har9⟩ := add_post hq9
    replace m1 := (hfr (M + 1) (by omega)).trans m1
    replace m2 := (hfr (M + 2) (by omega)).trans m2
    replace m3 := (hfr (M + 3) (by omega)).trans m3
    replace m4 := (hfr (M + 4) (by omega)).trans m4
    replace hF : ∀ b, b < M ∨ M + 13 ≤ b ∨ (M + 5 ≤ b ∧ b < M + 10) → w3 b = w b := fun b hb => (hfr b (by omega)).trans (hF b hb)
    refine lv_aload_n S.1 S.2.1 dX3_whole_17 rfl (lv_at hl 0 rfl) ?_
    refine lv_iload_n S.1 S.2.1 dX3_whole_18 rfl (lv_at hl 1 rfl) ?_
    refine ck_i (run_V (As := [.int (nI z)]) (rest := []) S hK hH (kX3_to M (z) m9 (fup (fun _ => 0) 0 v) (one 0 v) Sl hc pc (nI 0) ma gc gh gl fc fh fl m0 m1 m2 m3 m4 m10 m11 m12 hz (by omega) hsl (fun _ => whole_A (har9 _ _ _ ar_0 vC_0 rfl rfl rfl (by omega)) c6)) ceX3_to mW365 m0 rfl rfl hl.1 rfl (Nat.le_of_ble_eq_true rfl) dX3_whole_19 ⟨rfl, rfl, by decide, by decide⟩ ⟨show 0 + 0 ≤ 0 by omega, show 0 + 0 ≤ 0 by omega⟩) hH (fun r19 w4 n4 H locs hp hH => ?_)
    obtain ⟨hn1, hfr, ⟨⟨cnt9, fc, fh, fl, m0, m10, m11, m12⟩, ma9, gc9, gh9, gl9, m1, m2, m3, m4, hq5⟩⟩ := hp
    rw [hn1] at hH
    replace hq5 : Hid _ := hq5
    replace hF : ∀ b, b < M ∨ M + 13 ≤ b ∨ (M + 5 ≤ b ∧ b < M + 10) → w4 b = w b := fun b hb => (hfr b (by omega)).trans (hF b hb)
    exact rt_z S hr hlk hH dX3_whole_22 (by rcases hq5 with ⟨e, _⟩ | ⟨e, _⟩ <;> simp [e]) (⟨rfl, hF, _, _, _, _, _, _, _, _, _, m0, m10, m11, m12, m1, m2, m3, m4, whole_Q hq5⟩)

set_option maxHeartbeats 4000000 in
set_option maxRecDepth 100000 in
theorem kX3_power {l : Launch} {G : Gx} {B : Nat} {w : Wm} {n : Nat} (M z j t : Nat) (Sl : Nat → PL) (hc pc cnt big : Int32) (ma : Nat → Int32) (gc gh gl fc fh fl : Nat → Int64) (m0 : w M = some (MOb M hc pc cnt big)) (m1 : w (M + 1) = some (eI G 62 ma)) (m2 : w (M + 2) = some (eJ G 3720 gc)) (m3 : w (M + 3) = some (eJ G 3720 gh)) (m4 : w (M + 4) = some (eJ G 3720 gl)) (hz : z < 62) (hsl : SlotsOK ma gc gh gl Sl) (hj : j < (Sl z).length) (ht : t < 16) : Met l yX3_power (wsM yX3_power cX3_power 3 (some .int)) ({ frames := 0, cells := 0, slots := 0, locals := 0 } : Room) (Pcx G B w n [.ref (M), .int (nI (60 * z + j)), .int (nI t)]) (Qi G B (fun r w' n' => w' = w ∧ n' = n ∧ r = nI (dig (cd (Sl z) j) t))) 0 0 (FA B) := by
  refine en (by decide) (Nat.le_of_ble_eq_true rfl) ?_
  intro p ev s mm ag bl mt cde S hr hlk hnm hK H hH ls hl
  have hl : lv_has ls 3 [(0, .ref (M)), (1, .int (nI (60 * z + j))), (2, .int (nI t))] := hl
  obtain ⟨hok, hmz, hsz⟩ := hsl z hz
  have hlen := hok.2.1
  have h9 := hsz j hj
  have b1 : hiC (cd (Sl z) j) < 800000000000000000 := cv8_lt _
  have b2 : loC (cd (Sl z) j) < 800000000000000000 := cv8_lt _
  refine lv_iload_n S.1 S.2.1 dX3_power_0 rfl (lv_at hl 2 rfl) ?_
  refine lv_bipush (v := nI 8) S.1 S.2.1 dX3_power_1 (by decide) ?_
  refine bn_ge (tgt := 27) S dX3_power_3 (by decide) (by omega) (fun c3 => ?_) (fun c3 => ?_)
  · skip
    refine lv_aload_n S.1 S.2.1 dX3_power_27 rfl (lv_at hl 0 rfl) ?_
    refine gfX3_20 S hK hH m0 dX3_power_28 ?_
    refine lv_iload_n S.1 S.2.1 dX3_power_31 rfl (lv_at hl 1 rfl) ?_
    refine ald_l S hK hH m4 (by omega) (by omega) dX3_power_32 ?_
    refine tpl (x' := lN (loC (cd (Sl z) j))) (h9.2.2) ?_
    refine lv_bipush (v := nI 56) S.1 S.2.1 dX3_power_33 (by decide) ?_
    refine lv_bipush (v := nI 8) S.1 S.2.1 dX3_power_35 (by decide) ?_
    refine lv_iload_n S.1 S.2.1 dX3_power_37 rfl (lv_at hl 2 rfl) ?_
    refine lv_bipush (v := nI 8) S.1 S.2.1 dX3_power_38 (by decide) ?_
    refine lv_isub S.1 S.2.1 dX3_power_40 ?_
    refine tpi (x' := nI (t - 8)) (pk_sub (by omega)) ?_
    refine lv_imul S.1 S.2.1 dX3_power_41 ?_
    refine tpi (x' := nI (8 * (t - 8))) (pk_mul _ _) ?_
    refine lv_isub S.1 S.2.1 dX3_power_42 ?_
    refine tpi (x' := nI (56 - (8 * (t - 8)))) (pk_sub (by omega)) ?_
    refine tpi (x' := nI (8 * (7 - (t - 8)))) (by congr 1; omega) ?_
    refine lv_lushr (v := lN (loC (cd (Sl z) j) / 256 ^ (7 - (t - 8)))) S.1 S.2.1 dX3_power_43 (bt_sh (by omega) (by omega)) ?_
    refine lv_ldc2 S.1 S.2.1 S.2.2.2.1 (S.2.2.2.2 _ mW382) dX3_power_44 ?_
    refine tpl (x' := lI 255) (by decide) ?_
    refine lv_land S.1 S.2.1 dX3_power_47 ?_
    refine tpl (x' := lN (bt8 (7 - (t - 8)) (loC (cd (Sl z) j)))) (bt_mk (by omega)) ?_
    refine lv_l2i (v := nI (bt8 (7 - (t - 8)) (loC (cd (Sl z) j)))) S.1 S.2.1 dX3_power_48 (lN_i _) ?_
    exact rt_i S hr hlk hH dX3_power_49 (⟨rfl, rfl, by rw [dig_lo c3 ht]⟩)
  · skip
    refine lv_aload_n S.1 S.2.1 dX3_power_6 rfl (lv_at hl 0 rfl) ?_
    refine gfX3_17 S hK hH m0 dX3_power_7 ?_
    refine lv_iload_n S.1 S.2.1 dX3_power_10 rfl (lv_at hl 1 rfl) ?_
    refine ald_l S hK hH m3 (by omega) (by omega) dX3_power_11 ?_
    refine tpl (x' := lN (hiC (cd (Sl z) j))) (h9.2.1) ?_
    refine lv_bipush (v := nI 56) S.1 S.2.1 dX3_power_12 (by decide) ?_
    refine lv_bipush (v := nI 8) S.1 S.2.1 dX3_power_14 (by decide) ?_
    refine lv_iload_n S.1 S.2.1 dX3_power_16 rfl (lv_at hl 2 rfl) ?_
    refine lv_imul S.1 S.2.1 dX3_power_17 ?_
    refine tpi (x' := nI (8 * t)) (pk_mul _ _) ?_
    refine lv_isub S.1 S.2.1 dX3_power_18 ?_
    refine tpi (x' := nI (56 - (8 * t))) (pk_sub (by omega)) ?_
    refine tpi (x' := nI (8 * (7 - t))) (by congr 1; omega) ?_
    refine lv_lushr (v := lN (hiC (cd (Sl z) j) / 256 ^ (7 - t))) S.1 S.2.1 dX3_power_19 (bt_sh (by omega) (by omega)) ?_
    refine lv_ldc2 S.1 S.2.1 S.2.2.2.1 (S.2.2.2.2 _ mW382) dX3_power_20 ?_
    refine tpl (x' := lI 255) (by decide) ?_
    refine lv_land S.1 S.2.1 dX3_power_23 ?_
    refine tpl (x' := lN (bt8 (7 - t) (hiC (cd (Sl z) j)))) (bt_mk (by omega)) ?_
    refine lv_goto (tgt := 48) S.1 S.2.1 dX3_power_24 (by decide) ?_
    refine lv_l2i (v := nI (bt8 (7 - t) (hiC (cd (Sl z) j)))) S.1 S.2.1 dX3_power_48 (lN_i _) ?_
    exact rt_i S hr hlk hH dX3_power_49 (⟨rfl, rfl, by rw [dig_hi c3]⟩)

set_option maxHeartbeats 4000000 in
set_option maxRecDepth 100000 in
theorem kX3_copy {l : Launch} {G : Gx} {B : Nat} {w : Wm} {n : Nat} (M a z : Nat) (Sl : Nat → PL) (hc pc cnt big : Int32) (ma : Nat → Int32) (gc gh gl fc fh fl : Nat → Int64) (m0 : w M = some (MOb M hc pc cnt big)) (m1 : w (M + 1) = some (eI G 62 ma)) (m2 : w (M + 2) = some (eJ G 3720 gc)) (m3 : w (M + 3) = some (eJ G 3720 gh)) (m4 : w (M + 4) = some (eJ G 3720 gl)) (ha : a < 62) (hz : z < 62) (haz : a ≠ z) (hsl : SlotsOK ma gc gh gl Sl) : Met l yX3_copy (wsM yX3_copy cX3_copy 4 none) ({ frames := 0, cells := 0, slots := 0, locals := 0 } : Room) (Pcx G B w n [.ref (M), .int (nI a), .int (nI z)]) (Qv G B (fun w' n' => n' = n ∧ (∀ b, (b < M + 1 ∨ M + 5 ≤ b) → w' b = w b) ∧ ∃ ma' gc' gh' gl', w' (M + 1) = some (eI G 62 ma') ∧ w' (M + 2) = some (eJ G 3720 gc') ∧ w' (M + 3) = some (eJ G 3720 gh') ∧ w' (M + 4) = some (eJ G 3720 gl') ∧ SlotsOK ma' gc' gh' gl' (va_up Sl z (Sl a)))) 0 0 (FA B) := by
  refine en (by decide) (Nat.le_of_ble_eq_true rfl) ?_
  intro p ev s mm ag bl mt cde S hr hlk hnm hK H hH ls hl
  have hl : lv_has ls 4 [(0, .ref (M)), (1, .int (nI a)), (2, .int (nI z))] := hl
  obtain ⟨hok, hmz, hsz⟩ := hsl a ha
  have hlen := hok.2.1
  have hF : ∀ b, b < M + 1 ∨ M + 5 ≤ b → w b = w b := fun _ _ => rfl
  refine lv_aload_n S.1 S.2.1 dX3_copy_0 rfl (lv_at hl 0 rfl) ?_
  refine gfX3_9 S hK hH m0 dX3_copy_1 ?_
  refine lv_iload_n S.1 S.2.1 dX3_copy_4 rfl (lv_at hl 2 rfl) ?_
  refine lv_aload_n S.1 S.2.1 dX3_copy_5 rfl (lv_at hl 0 rfl) ?_
  refine gfX3_9 S hK hH m0 dX3_copy_6 ?_
  refine lv_iload_n S.1 S.2.1 dX3_copy_9 rfl (lv_at hl 1 rfl) ?_
  refine ald_i S hK hH m1 (by omega) (by omega) dX3_copy_10 ?_
  refine tpi (x' := nI ((Sl a).length)) (hmz) ?_
  refine ast_i S hK hH m1 (by omega) (by omega) dX3_copy_11 (fun w1 H locs m1 fr hH => ?_)
  replace m0 := (fr (M) (by omega)).trans m0
  replace m2 := (fr (M + 2) (by omega)).trans m2
  replace m3 := (fr (M + 3) (by omega)).trans m3
  replace m4 := (fr (M + 4) (by omega)).trans m4
  replace hF : ∀ b, b < M + 1 ∨ M + 5 ≤ b → w1 b = w b := fun b hb => (fr b (by omega)).trans (hF b hb)
  refine lv_iconst (v := nI 0) S.1 S.2.1 dX3_copy_12 (by decide) ?_
  refine lv_istore_n (lv' := [(3, .int (nI 0)), (0, .ref (M)), (1, .int (nI a)), (2, .int (nI z))]) S.1 S.2.1 dX3_copy_13 rfl hl (by decide) rfl (fun ls hl => ?_)
  refine wlp (P := fun k_ ls H' locs' => ∃ (i : Nat) (gc2 gh2 gl2 : Nat → Int64) (v : Wm), lv_has ls 4 [(0, .ref (M)), (1, .int (nI a)), (2, .int (nI z)), (3, .int (nI i))] ∧ HS G B v (n) s H' locs' ∧ v (M) = some (eO 3 [.ref (M + 1), .ref (M + 2), .ref (M + 3), .ref (M + 4), .int (hc), .int (pc), .ref (M + 5), .ref (M + 6), .ref (M + 7), .ref (M + 8), .ref (M + 9), .int (cnt), .int (big), .ref (M + 10), .ref (M + 11), .ref (M + 12)]) ∧ v (M + 1) = some (eI G (62) (upd ma z (nI (Sl a).length))) ∧ v (M + 2) = some (eJ G (3720) (gc2)) ∧ v (M + 3) = some (eJ G (3720) (gh2)) ∧ v (M + 4) = some (eJ G (3720) (gl2)) ∧ (∀ b, b < M + 1 ∨ M + 5 ≤ b → v b = w b) ∧ (i ≤ (Sl a).length) ∧ (CpI gc gh gl gc2 gh2 gl2 (fun x => lI (cf (Sl a) x)) (fun x => lN (hiC (cd (Sl a) x))) (fun x => lN (loC (cd (Sl a) x))) z i) ∧ k_ = (Sl a).length - i) ?_ (k0 := (Sl a).length - (0)) ⟨0, gc, gh, gl, w1, lv_sub hl [1, 2, 3, 0] rfl, hH, m0, m1, m2, m3, m4, hF, by omega, CpI_0, rfl⟩
  intro k14 ls H locs hP ih14
  obtain ⟨i, gc2, gh2, gl2, v, hl, hH, m0, m1, m2, m3, m4, hF, hi, hcp, hk14⟩ := hP
  refine lv_iload_n S.1 S.2.1 dX3_copy_14 rfl (lv_at hl 3 rfl) ?_
  refine lv_aload_n S.1 S.2.1 dX3_copy_15 rfl (lv_at hl 0 rfl) ?_
  refine gfX3_9 S hK hH m0 dX3_copy_16 ?_
  refine lv_iload_n S.1 S.2.1 dX3_copy_19 rfl (lv_at hl 1 rfl) ?_
  refine ald_i S hK hH m1 (by omega) (by omega) dX3_copy_20 ?_
  refine tpi (x' := nI ((Sl a).length)) (by rw [pk_un haz]; exact hmz) ?_
  refine bn_ge (tgt := 96) S dX3_copy_21 (by decide) (by omega) (fun c21 => ?_) (fun c21 => ?_)
  · skip
    exact rt_v S hr hlk hH dX3_copy_96 (⟨rfl, hF, _, _, _, _, m1, m2, m3, m4, slots_cp hsl ha hz (by rw [show (Sl a).length = i by omega]; exact hcp)⟩)
  · skip
    refine lv_aload_n S.1 S.2.1 dX3_copy_24 rfl (lv_at hl 0 rfl) ?_
    refine gfX3_13 S hK hH m0 dX3_copy_25 ?_
    refine lv_bipush (v := nI 60) S.1 S.2.1 dX3_copy_28 (by decide) ?_
    refine lv_iload_n S.1 S.2.1 dX3_copy_30 rfl (lv_at hl 2 rfl) ?_
    refine lv_imul S.1 S.2.1 dX3_copy_31 ?_
    refine tpi (x' := nI (60 * z)) (pk_mul _ _) ?_
    refine lv_iload_n S.1 S.2.1 dX3_copy_32 rfl (lv_at hl 3 rfl) ?_
    refine lv_iadd S.1 S.2.1 dX3_copy_33 ?_
    refine tpi (x' := nI (60 * z + i)) (nI_add _ _) ?_
    refine lv_aload_n S.1 S.2.1 dX3_copy_34 rfl (lv_at hl 0 rfl) ?_
    refine gfX3_13 S hK hH m0 dX3_copy_35 ?_
    refine lv_bipush (v := nI 60) S.1 S.2.1 dX3_copy_38 (by decide) ?_
    refine lv_iload_n S.1 S.2.1 dX3_copy_40 rfl (lv_at hl 1 rfl) ?_
    refine lv_imul S.1 S.2.1 dX3_copy_41 ?_
    refine tpi (x' := nI (60 * a)) (pk_mul _ _) ?_
    refine lv_iload_n S.1 S.2.1 dX3_copy_42 rfl (lv_at hl 3 rfl) ?_
    refine lv_iadd S.1 S.2.1 dX3_copy_43 ?_
    refine tpi (x' := nI (60 * a + i)) (nI_add _ _) ?_
    refine ald_l S hK hH m2 (by omega) (by omega) dX3_copy_44 ?_
    refine tpl (x' := lI (cf (Sl a) i)) (by rw [(hcp.2 _ (by omega)).1]; exact (hsz i c21).1) ?_
    refine ast_l S hK hH m2 (by omega) (by omega) dX3_copy_45 (fun w2 H locs m2 fr hH => ?_)
    replace m0 := (fr (M) (by omega)).trans m0
    replace m1 := (fr (M + 1) (by omega)).trans m1
    replace m3 := (fr (M + 3) (by omega)).trans m3
    replace m4 := (fr (M + 4) (by omega)).trans m4
    replace hF : ∀ b, b < M + 1 ∨ M + 5 ≤ b → w2 b = w b := fun b hb => (fr b (by omega)).trans (hF b hb)
    refine lv_aload_n S.1 S.2.1 dX3_copy_46 rfl (lv_at hl 0 rfl) ?_
    refine gfX3_17 S hK hH m0 dX3_copy_47 ?_
    refine lv_bipush (v := nI 60) S.1 S.2.1 dX3_copy_50 (by decide) ?_
    refine lv_iload_n S.1 S.2.1 dX3_copy_52 rfl (lv_at hl 2 rfl) ?_
    refine lv_imul S.1 S.2.1 dX3_copy_53 ?_
    refine tpi (x' := nI (60 * z)) (pk_mul _ _) ?_
    refine lv_iload_n S.1 S.2.1 dX3_copy_54 rfl (lv_at hl 3 rfl) ?_
    refine lv_iadd S.1 S.2.1 dX3_copy_55 ?_
    refine tpi (x' := nI (60 * z + i)) (nI_add _ _) ?_
    refine lv_aload_n S.1 S.2.1 dX3_copy_56 rfl (lv_at hl 0 rfl) ?_
    refine gfX3_17 S hK hH m0 dX3_copy_57 ?_
    refine lv_bipush (v := nI 60) S.1 S.2.1 dX3_copy_60 (by decide) ?_
    refine lv_iload_n S.1 S.2.1 dX3_copy_62 rfl (lv_at hl 1 rfl) ?_
    refine lv_imul S.1 S.2.1 dX3_copy_63 ?_
    refine tpi (x' := nI (60 * a)) (pk_mul _ _) ?_
    refine lv_iload_n S.1 S.2.1 dX3_copy_64 rfl (lv_at hl 3 rfl) ?_
    refine lv_iadd S.1 S.2.1 dX3_copy_65 ?_
    refine tpi (x' := nI (60 * a + i)) (nI_add _ _) ?_
    refine ald_l S hK hH m3 (by omega) (by omega) dX3_copy_66 ?_
    refine tpl (x' := lN (hiC (cd (Sl a) i))) (by rw [(hcp.2 _ (by omega)).2.1]; exact (hsz i c21).2.1) ?_
    refine ast_l S hK hH m3 (by omega) (by omega) dX3_copy_67 (fun w3 H locs m3 fr hH => ?_)
    replace m0 := (fr (M) (by omega)).trans m0
    replace m1 := (fr (M + 1) (by omega)).trans m1
    replace m2 := (fr (M + 2) (by omega)).trans m2
    replace m4 := (fr (M + 4) (by omega)).trans m4
    replace hF : ∀ b, b < M + 1 ∨ M + 5 ≤ b → w3 b = w b := fun b hb => (fr b (by omega)).trans (hF b hb)
    refine lv_aload_n S.1 S.2.1 dX3_copy_68 rfl (lv_at hl 0 rfl) ?_
    refine gfX3_20 S hK hH m0 dX3_copy_69 ?_
    refine lv_bipush (v := nI 60) S.1 S.2.1 dX3_copy_72 (by decide) ?_
    refine lv_iload_n S.1 S.2.1 dX3_copy_74 rfl (lv_at hl 2 rfl) ?_
    refine lv_imul S.1 S.2.1 dX3_copy_75 ?_
    refine tpi (x' := nI (60 * z)) (pk_mul _ _) ?_
    refine lv_iload_n S.1 S.2.1 dX3_copy_76 rfl (lv_at hl 3 rfl) ?_
    refine lv_iadd S.1 S.2.1 dX3_copy_77 ?_
    refine tpi (x' := nI (60 * z + i)) (nI_add _ _) ?_
    refine lv_aload_n S.1 S.2.1 dX3_copy_78 rfl (lv_at hl 0 rfl) ?_
    refine gfX3_20 S hK hH m0 dX3_copy_79 ?_
    refine lv_bipush (v := nI 60) S.1 S.2.1 dX3_copy_82 (by decide) ?_
    refine lv_iload_n S.1 S.2.1 dX3_copy_84 rfl (lv_at hl 1 rfl) ?_
    refine lv_imul S.1 S.2.1 dX3_copy_85 ?_
    refine tpi (x' := nI (60 * a)) (pk_mul _ _) ?_
    refine lv_iload_n S.1 S.2.1 dX3_copy_86 rfl (lv_at hl 3 rfl) ?_
    refine lv_iadd S.1 S.2.1 dX3_copy_87 ?_
    refine tpi (x' := nI (60 * a + i)) (nI_add _ _) ?_
    refine ald_l S hK hH m4 (by omega) (by omega) dX3_copy_88 ?_
    refine tpl (x' := lN (loC (cd (Sl a) i))) (by rw [(hcp.2 _ (by omega)).2.2]; exact (hsz i c21).2.2) ?_
    refine ast_l S hK hH m4 (by omega) (by omega) dX3_copy_89 (fun w4 H locs m4 fr hH => ?_)
    replace m0 := (fr (M) (by omega)).trans m0
    replace m1 := (fr (M + 1) (by omega)).trans m1
    replace m2 := (fr (M + 2) (by omega)).trans m2
    replace m3 := (fr (M + 3) (by omega)).trans m3
    replace hF : ∀ b, b < M + 1 ∨ M + 5 ≤ b → w4 b = w b := fun b hb => (fr b (by omega)).trans (hF b hb)
    refine lv_iinc (v := nI (i + 1)) (lv' := [(3, .int (nI (i + 1))), (0, .ref (M)), (1, .int (nI a)), (2, .int (nI z))]) S.1 S.2.1 dX3_copy_90 hl (k := 3) rfl (nI_inc _ 1) (by decide) rfl (fun ls hl => ?_)
    refine lv_goto (tgt := 14) S.1 S.2.1 dX3_copy_93 (by decide) ?_
    exact ih14 _ _ _ _ (by omega) ⟨i + 1, _, _, _, w4, lv_sub hl [1, 2, 3, 0] rfl, hH, m0, m1, m2, m3, m4, hF, by omega, hcp.step, rfl⟩

