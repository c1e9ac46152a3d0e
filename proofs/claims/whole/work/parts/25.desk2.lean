theorem lt_nI {x : Int32} {N : Nat} (hN : N < 2 ^ 31) (h : x < nI N) : x.toInt < N := by
  rw [Int32.lt_iff_toInt_lt, nI_toInt hN] at h; exact h
theorem nlt_nI {x : Int32} {N : Nat} (hN : N < 2 ^ 31) (h : ¬ x < nI N) : ¬ x.toInt < N := by
  rw [Int32.lt_iff_toInt_lt, nI_toInt hN] at h; exact h
theorem nneg {x : Int32} (h : 0 ≤ x.toInt) : ¬ x < 0 := by
  rw [Int32.lt_iff_toInt_lt]; simp; exact h
theorem nbig {x : Int32} {N : Nat} (hN : N < 2 ^ 31) (h : x.toInt < N) : ¬ nI N ≤ x := by
  rw [Int32.le_iff_toInt_le, nI_toInt hN]; omega
theorem there_t {hc k : Nat} {pf : Nat → Int32} (h : ∀ f, f < k → (pf f).toInt < hc) : thereF hc pf k = true := by
  rw [thereF, List.all_eq_true]
  exact fun f hf => decide_eq_true (h f (List.mem_range.mp hf))
theorem there_f {hc k i : Nat} {pf : Nat → Int32} (hi : i < k) (h : ¬ (pf i).toInt < hc) : thereF hc pf k = false := by
  cases e : thereF hc pf k
  · rfl
  · rw [thereF, List.all_eq_true] at e
    exact absurd (of_decide_eq_true (e i (List.mem_range.mpr hi))) h
section WP
variable {Hh : Nat → PL} {hc f e0 h : Nat} {pn : Nat → Nat} {pf : Nat → Int32} {A M : PL}
theorem wpi_skip (hf : f < e0) (hs : ¬ (0 ≤ (pf f).toInt ∧ (pf f).toInt < hc)) : wpi Hh hc pf f (e0 - f) A = wpi Hh hc pf (f + 1) (e0 - (f + 1)) A := by
  rw [show e0 - f = (e0 - (f + 1)) + 1 by omega, wpi, if_neg hs]; rfl
theorem wpi_some (hf : f < e0) (hh : h < hc) (hb : hc < 2 ^ 31) (hx : pf f = nI h) (e : pmul A (Hh h) = some M) : wpi Hh hc pf f (e0 - f) A = wpi Hh hc pf (f + 1) (e0 - (f + 1)) M := by
  have e1 : (pf f).toInt = (h : Int) := by rw [hx, nI_toInt (by omega)]
  rw [show e0 - f = (e0 - (f + 1)) + 1 by omega, wpi, e1, if_pos (by omega), Int.toNat_natCast, e]; rfl
theorem wpi_none (hf : f < e0) (hh : h < hc) (hb : hc < 2 ^ 31) (hx : pf f = nI h) (e : pmul A (Hh h) = none) : wpi Hh hc pf f (e0 - f) A = none := by
  have e1 : (pf f).toInt = (h : Int) := by rw [hx, nI_toInt (by omega)]
  rw [show e0 - f = (e0 - (f + 1)) + 1 by omega, wpi, e1, if_pos (by omega), Int.toNat_natCast, e]; rfl
variable {p N : Nat} {acc A2 : PL}
theorem psum_some (hp : p < N) (e1 : wpi Hh hc pf (4 * p) 4 (one 0 (pn p)) = some M) (e2 : padd 1 acc M = some A2) : psum Hh hc pn pf p (N - p) acc = psum Hh hc pn pf (p + 1) (N - (p + 1)) A2 := by
  rw [show N - p = (N - (p + 1)) + 1 by omega, psum, e1, Option.bind_some, e2]; rfl
theorem psum_none1 (hp : p < N) (e1 : wpi Hh hc pf (4 * p) 4 (one 0 (pn p)) = none) : psum Hh hc pn pf p (N - p) acc = none := by
  rw [show N - p = (N - (p + 1)) + 1 by omega, psum, e1]; rfl
theorem psum_none2 (hp : p < N) (e1 : wpi Hh hc pf (4 * p) 4 (one 0 (pn p)) = some M) (e2 : padd 1 acc M = none) : psum Hh hc pn pf p (N - p) acc = none := by
  rw [show N - p = (N - (p + 1)) + 1 by omega, psum, e1, Option.bind_some, e2]; rfl
theorem psum_end (hp : N ≤ p) : psum Hh hc pn pf p (N - p) acc = some acc := by
  rw [show N - p = 0 by omega]; rfl
end WP
section SH
variable {σ : St} {L W0 A : PL} {k : Int}
theorem show_no (h : thereF σ.2.2.1 σ.2.2.2.2.1 (4 * σ.2.2.2.2.2) = false) : showA σ L k = 0 := by
  rw [showA, if_neg (by rw [h]; decide)]
theorem show_1 (h : thereF σ.2.2.1 σ.2.2.2.2.1 (4 * σ.2.2.2.2.2) = true) (e : pmul (one 0 k) L = none) : showA σ L k = -2 := by
  rw [showA, if_pos h, e]
theorem show_2 (h : thereF σ.2.2.1 σ.2.2.2.2.1 (4 * σ.2.2.2.2.2) = true) (e : pmul (one 0 k) L = some W0) (e2 : psum σ.2.1 σ.2.2.1 σ.2.2.2.1 σ.2.2.2.2.1 0 σ.2.2.2.2.2 [] = none) : showA σ L k = -2 := by
  rw [showA, if_pos h, e]; simp only [e2]
theorem show_3 (h : thereF σ.2.2.1 σ.2.2.2.2.1 (4 * σ.2.2.2.2.2) = true) (e : pmul (one 0 k) L = some W0) (e2 : psum σ.2.1 σ.2.2.1 σ.2.2.2.1 σ.2.2.2.2.1 0 σ.2.2.2.2.2 [] = some A) : showA σ L k = if A = W0 then 1 else 0 := by
  rw [showA, if_pos h, e]; simp only [e2]
end SH
theorem br_sx {D P T Z : Nat} (h : BR D P T Z) : BR D P Z T := by
  unfold BR at h ⊢
  omega
theorem DeskI.br {D n : Nat} {rg hy : Nat → Option Nat} {nums facs : Nat → Int32} {P T Z P' T' Z' : Nat} {pool : Nat → Nat × PL} {σ : St} (hi : DeskI D n rg hy nums facs P T Z pool σ) (h : BR D P' T' Z') : DeskI D n rg hy nums facs P' T' Z' pool σ := ⟨h, hi.2⟩
theorem push_I {D n : Nat} {rg hy : Nat → Option Nat} {nums facs : Nat → Int32} {P T Z : Nat} {pool : Nat → Nat × PL} {σ : St} {M : PL} (hi : DeskI D n rg hy nums facs P T Z pool σ) : DeskI D (n + 4) rg hy nums facs P T Z (va_up pool n (M.length, M)) σ := by
  obtain ⟨hbr, hj, hhc, hpc, hrg, hhy, hnu, hfa⟩ := hi
  have old : ∀ a, isP D n a → isP D (n + 4) a ∧ va_up pool n (M.length, M) a = pool a := fun a ha => by
    have := isP_lt (by omega) ha
    exact ⟨isP_up (by omega) ha, va_up_ne _ _ (by omega)⟩
  refine ⟨hbr, by omega, hhc, hpc, fun i hi => ?_, fun i hi => ?_, hnu, hfa⟩
  · obtain ⟨a, h1, h2, h3⟩ := hrg i hi
    exact ⟨a, h1, (old a h2).1, by rw [(old a h2).2, h3]⟩
  · obtain ⟨a, h1, h2, h3⟩ := hhy i hi
    exact ⟨a, h1, (old a h2).1, by rw [(old a h2).2, h3]⟩

set_option maxHeartbeats 4000000 in
set_option maxRecDepth 100000 in
theorem kX2_factorsAreThere {l : Launch} {G : Gx} {B : Nat} {w : Wm} {n : Nat} (D : Nat) (rg hy : Nat → Option Nat) (nums facs : Nat → Int32) (P T Z : Nat) (pool : Nat → Nat × PL) (σ : St) (hd : DeskC G w n D rg hy σ.2.2.1 nums facs σ.2.2.2.2.2 P T Z pool) (hi : DeskI D n rg hy nums facs P T Z pool σ) : Met l yX2_factorsAreThere (wsM yX2_factorsAreThere cX2_factorsAreThere 2 (some .boolean)) ({ frames := 0, cells := 0, slots := 0, locals := 0 } : Room) (Pcx G B w n [.ref (D)]) (Qi G B (fun r w' n' => w' = w ∧ n' = n ∧ ((r = 1 ∧ thereF σ.2.2.1 σ.2.2.2.2.1 (4 * σ.2.2.2.2.2) = true) ∨ (r = 0 ∧ thereF σ.2.2.1 σ.2.2.2.2.1 (4 * σ.2.2.2.2.2) = false)))) 0 0 (FA B) := by
  refine en (by decide) (Nat.le_of_ble_eq_true rfl) ?_
  intro p ev s mm ag bl mt co S hr hlk hnm hK H hH ls hl
  have hl : lv_has ls 2 [(0, .ref (D))] := hl
  obtain ⟨d0, d5, d6, d7, d8, ⟨bg, d9⟩, ⟨mf, dm⟩, hP, hT, hZ, hpl⟩ := hd
  obtain ⟨hbr, hj, hhc, hpc, hrg, hhy, hnu, hfa⟩ := id hi
  unfold BR at hbr
  refine lv_iconst (v := nI 0) S.1 S.2.1 dX2_factorsAreThere_0 (by decide) ?_
  refine lv_istore_n (lv' := [(1, .int (nI 0)), (0, .ref (D))]) S.1 S.2.1 dX2_factorsAreThere_1 rfl hl (by decide) rfl (fun ls hl => ?_)
  refine wlp (P := fun k_ ls H' locs' => ∃ (i : Nat), lv_has ls 2 [(0, .ref (D)), (1, .int (nI i))] ∧ (H = H' ∧ [] = locs') ∧ (i ≤ 4 * σ.2.2.2.2.2) ∧ (∀ f, f < i → (σ.2.2.2.2.1 f).toInt < σ.2.2.1) ∧ k_ = 4 * σ.2.2.2.2.2 - i) ?_ (k0 := 4 * σ.2.2.2.2.2 - (0)) ⟨0, lv_sub hl [1, 0] rfl, ⟨rfl, rfl⟩, by omega, fun f h => absurd h (Nat.not_lt_zero f), rfl⟩
  intro k2 ls H' locs' hP ih2
  obtain ⟨i, hl, ⟨rfl, rfl⟩, hi1, hall, hk2⟩ := hP
  refine lv_iload_n S.1 S.2.1 dX2_factorsAreThere_2 rfl (lv_at hl 1 rfl) ?_
  refine lv_aload_n S.1 S.2.1 dX2_factorsAreThere_3 rfl (lv_at hl 0 rfl) ?_
  refine gfX2_32 S hK hH d0 dX2_factorsAreThere_4 ?_
  refine lv_iconst (v := nI 4) S.1 S.2.1 dX2_factorsAreThere_7 (by decide) ?_
  refine lv_imul S.1 S.2.1 dX2_factorsAreThere_8 ?_
  refine tpi (x' := nI ((σ.2.2.2.2.2) * 4)) (pk_mul _ _) ?_
  refine bn_ge (tgt := 33) S dX2_factorsAreThere_9 (by decide) (by omega) (fun c9 => ?_) (fun c9 => ?_)
  · skip
    refine lv_iconst (v := nI 1) S.1 S.2.1 dX2_factorsAreThere_33 (by decide) ?_
    exact rt_z S hr hlk hH dX2_factorsAreThere_34 (by decide) (⟨rfl, rfl, Or.inl ⟨rfl, there_t (fun f h => hall f (by omega))⟩⟩)
  · skip
    refine lv_aload_n S.1 S.2.1 dX2_factorsAreThere_12 rfl (lv_at hl 0 rfl) ?_
    refine gfX2_29 S hK hH d0 dX2_factorsAreThere_13 ?_
    refine lv_iload_n S.1 S.2.1 dX2_factorsAreThere_16 rfl (lv_at hl 1 rfl) ?_
    refine ald_i S hK hH d8 (by omega) (by omega) dX2_factorsAreThere_17 ?_
    refine tpi (x' := σ.2.2.2.2.1 i) (hfa i (by omega)) ?_
    refine lv_aload_n S.1 S.2.1 dX2_factorsAreThere_18 rfl (lv_at hl 0 rfl) ?_
    refine gfX2_21 S hK hH d0 dX2_factorsAreThere_19 ?_
    refine lv_icmp_lt (tgt := 27) S.1 S.2.1 dX2_factorsAreThere_22 (by decide) (fun c22 => ?_) (fun c22 => ?_)
    · skip
      have c22 := lt_nI (by omega) c22
      refine lv_iinc (v := nI (i + 1)) (lv' := [(1, .int (nI (i + 1))), (0, .ref (D))]) S.1 S.2.1 dX2_factorsAreThere_27 hl (k := 1) rfl (nI_inc _ 1) (by decide) rfl (fun ls hl => ?_)
      refine lv_goto (tgt := 2) S.1 S.2.1 dX2_factorsAreThere_30 (by decide) ?_
      exact ih2 _ _ _ _ (by omega) ⟨i + 1, lv_sub hl [1, 0] rfl, ⟨rfl, rfl⟩, by omega, lt_s hall c22, rfl⟩
    · skip
      have c22 := nlt_nI (by omega) c22
      refine lv_iconst (v := nI 0) S.1 S.2.1 dX2_factorsAreThere_25 (by decide) ?_
      exact rt_z S hr hlk hH dX2_factorsAreThere_26 (by decide) (⟨rfl, rfl, Or.inr ⟨rfl, there_f (show i < 4 * σ.2.2.2.2.2 by omega) c22⟩⟩)

set_option maxHeartbeats 4000000 in
set_option maxRecDepth 100000 in
theorem kX2_workPart {l : Launch} {G : Gx} {B : Nat} {w : Wm} {n : Nat} (D p1 : Nat) (rg hy : Nat → Option Nat) (nums facs : Nat → Int32) (P T Z : Nat) (pool : Nat → Nat × PL) (σ : St) (hd : DeskC G w n D rg hy σ.2.2.1 nums facs σ.2.2.2.2.2 P T Z pool) (hi : DeskI D n rg hy nums facs P T Z pool σ) (hp1 : p1 < σ.2.2.2.2.2) : Met l yX2_workPart (wsM yX2_workPart cX2_workPart 4 (some .boolean)) ({ frames := 5, cells := 0, slots := 0, locals := 121 } : Room) (Pcx G B w n [.ref (D), .int (nI p1)]) (Qi G B (fun r w' n' => n' = n ∧ (∀ b, ((D + 23 ≤ b ∧ b < D + 36) ∨ (T ≤ b ∧ b < T + 4)) → w' b = w b) ∧ ∃ P' Z', BR D P' T Z' ∧ DeskC G w' n D rg hy σ.2.2.1 nums facs σ.2.2.2.2.2 P' T Z' pool ∧ ((r = 1 ∧ ∃ M, wpi σ.2.1 σ.2.2.1 σ.2.2.2.2.1 (4 * p1) 4 (one 0 (σ.2.2.2.1 p1)) = some M ∧ okP M ∧ PolyAt G w' P' 60 M) ∨ (r = 0 ∧ wpi σ.2.1 σ.2.2.1 σ.2.2.2.2.1 (4 * p1) 4 (one 0 (σ.2.2.2.1 p1)) = none)))) 0 0 (FA B) := by
  refine en (by decide) (Nat.le_of_ble_eq_true rfl) ?_
  intro p ev s mm ag bl mt co S hr hlk hnm hK H hH ls hl
  have hl : lv_has ls 4 [(0, .ref (D)), (1, .int (nI p1))] := hl
  obtain ⟨d0, d5, d6, d7, d8, ⟨bg, d9⟩, ⟨mf, dm⟩, hP, hT, hZ, hpl⟩ := hd
  obtain ⟨hbr, hj, hhc, hpc, hrg, hhy, hnu, hfa⟩ := id hi
  unfold BR at hbr
  have hnp := hnu p1 hp1
  have hF : ∀ b, (D + 23 ≤ b ∧ b < D + 36) ∨ (T ≤ b ∧ b < T + 4) → w b = w b := fun _ _ => rfl
  refine lv_aload_n S.1 S.2.1 dX2_workPart_0 rfl (lv_at hl 0 rfl) ?_
  refine gfX2_38 S hK hH d0 dX2_workPart_1 ?_
  refine lv_lconst (v := lI 0) S.1 S.2.1 dX2_workPart_4 (by decide) ?_
  refine tpl (x' := lN 0) (rfl) ?_
  refine lv_aload_n S.1 S.2.1 dX2_workPart_5 rfl (lv_at hl 0 rfl) ?_
  refine gfX2_25 S hK hH d0 dX2_workPart_6 ?_
  refine lv_iload_n S.1 S.2.1 dX2_workPart_9 rfl (lv_at hl 1 rfl) ?_
  refine ald_i S hK hH d7 (by omega) (by omega) dX2_workPart_10 ?_
  refine tpi (x' := nI (σ.2.2.2.1 p1)) (hnp.1) ?_
  refine tpi (x' := iI ((σ.2.2.2.1 p1 : Nat) : Int)) (rfl) ?_
  refine ck_v (run_VN (As := [.long (lN 0), .int (iI ((σ.2.2.2.1 p1 : Nat) : Int))]) (rest := []) S hK hH (kX0_beginProduct (D + 9) P 0 ((σ.2.2.2.1 p1 : Nat) : Int) (.ref T) (.ref Z) (.ref (D + 22)) (.int bg) d9 hP (by omega) (by omega)) ceX0_beginProduct mN106 d9 rfl rfl hl.1 rfl (Nat.le_of_ble_eq_true rfl) dX2_workPart_11 ⟨rfl, rfl, by decide, by decide⟩ ⟨show 0 + 0 ≤ 0 by omega, show 0 + 0 ≤ 0 by omega⟩) hH (fun w1 n1 H locs hp hH => ?_)
  obtain ⟨hn1, hfr, hP⟩ := hp
  rw [hn1] at hH
  replace d0 := (hfr (D) (by omega)).trans d0
  replace d5 := (hfr (D + 5) (by omega)).trans d5
  replace d6 := (hfr (D + 6) (by omega)).trans d6
  replace d7 := (hfr (D + 7) (by omega)).trans d7
  replace d8 := (hfr (D + 8) (by omega)).trans d8
  replace d9 := (hfr (D + 9) (by omega)).trans d9
  replace dm := (hfr (D + 22) (by omega)).trans dm
  replace hT := hT.kept (fun b h1 h2 => hfr b (by omega))
  replace hZ := hZ.kept (fun b h1 h2 => hfr b (by omega))
  replace hpl := hpl.kept (fun b h1 h2 => hfr b (by omega))
  replace hF : ∀ b, (D + 23 ≤ b ∧ b < D + 36) ∨ (T ≤ b ∧ b < T + 4) → w1 b = w b := fun b hb => (hfr b (by omega)).trans (hF b hb)
  refine lv_iload_n S.1 S.2.1 dX2_workPart_14 rfl (lv_at hl 1 rfl) ?_
  refine lv_iconst (v := nI 4) S.1 S.2.1 dX2_workPart_15 (by decide) ?_
  refine lv_imul S.1 S.2.1 dX2_workPart_16 ?_
  refine tpi (x' := nI (p1 * 4)) (pk_mul _ _) ?_
  refine lv_istore_n (lv' := [(2, .int (nI (p1 * 4))), (0, .ref (D)), (1, .int (nI p1))]) S.1 S.2.1 dX2_workPart_17 rfl hl (by decide) rfl (fun ls hl => ?_)
  refine wlp (P := fun k_ ls H' locs' => ∃ (f : Nat) (A : PL) (P Z : Nat) (bg : Int32) (mf : Nat → Int32) (v : Wm), lv_has ls 4 [(0, .ref (D)), (1, .int (nI p1)), (2, .int (nI f))] ∧ HS G B v (n) s H' locs' ∧ v (D) = some (eO 2 [.ref (D + 5), .ref (D + 6), .int (nI (σ.2.2.1)), .ref (D + 7), .ref (D + 8), .int (nI (σ.2.2.2.2.2)), .ref (D + 9)]) ∧ v (D + 5) = some (eQ G (16) (rg)) ∧ v (D + 6) = some (eQ G (40) (hy)) ∧ v (D + 7) = some (eI G (20) (nums)) ∧ v (D + 8) = some (eI G (80) (facs)) ∧ v (D + 9) = some (eO 0 [.ref (P), .ref (T), .ref (Z), .ref (D + 22), .int (bg)]) ∧ v (D + 22) = some (eI G (60) (mf)) ∧ (PolyAt G v P 60 A) ∧ (PolyR G v T) ∧ (PolyR G v Z) ∧ (PoolOK G v n D pool) ∧ (∀ b, (D + 23 ≤ b ∧ b < D + 36) ∨ (T ≤ b ∧ b < T + 4) → v b = w b) ∧ (BR D P T Z) ∧ (4 * p1 ≤ f) ∧ (f ≤ 4 * p1 + 4) ∧ (okP A) ∧ (wpi σ.2.1 σ.2.2.1 σ.2.2.2.2.1 (4 * p1) 4 (one 0 (σ.2.2.2.1 p1)) = wpi σ.2.1 σ.2.2.1 σ.2.2.2.2.1 f (4 * p1 + 4 - f) A) ∧ k_ = 4 * p1 + 4 - f) ?_ (k0 := 4 * p1 + 4 - (p1 * 4)) ⟨p1 * 4, _, P, Z, _, _, w1, lv_sub hl [1, 2, 0] rfl, hH, d0, d5, d6, d7, d8, d9, dm, hP, hT, hZ, hpl, hF, hbr, by omega, by omega, one_ok vC_0 (by omega), by rw [Nat.mul_comm p1 4, show 4 * p1 + 4 - 4 * p1 = 4 by omega], rfl⟩
  intro k18 ls H locs hP ih18
  obtain ⟨f, A, P, Z, bg, mf, v, hl, hH, d0, d5, d6, d7, d8, d9, dm, hP, hT, hZ, hpl, hF, hbr, hf1, hf2, oka, hw, hk18⟩ := hP
  unfold BR at hbr
  refine lv_iload_n S.1 S.2.1 dX2_workPart_18 rfl (lv_at hl 2 rfl) ?_
  refine lv_iload_n S.1 S.2.1 dX2_workPart_19 rfl (lv_at hl 1 rfl) ?_
  refine lv_iconst (v := nI 1) S.1 S.2.1 dX2_workPart_20 (by decide) ?_
  refine lv_iadd S.1 S.2.1 dX2_workPart_21 ?_
  refine tpi (x' := nI (p1 + 1)) (nI_add _ _) ?_
  refine lv_iconst (v := nI 4) S.1 S.2.1 dX2_workPart_22 (by decide) ?_
  refine lv_imul S.1 S.2.1 dX2_workPart_23 ?_
  refine tpi (x' := nI ((p1 + 1) * 4)) (pk_mul _ _) ?_
  refine bn_ge (tgt := 70) S dX2_workPart_24 (by decide) (by omega) (fun c24 => ?_) (fun c24 => ?_)
  · skip
    refine lv_iconst (v := nI 1) S.1 S.2.1 dX2_workPart_70 (by decide) ?_
    exact rt_z S hr hlk hH dX2_workPart_71 (by decide) (⟨rfl, hF, P, Z, hbr, ⟨d0, d5, d6, d7, d8, ⟨_, d9⟩, ⟨_, dm⟩, hP.raw, hT, hZ, hpl⟩, Or.inl ⟨rfl, A, by rw [hw, show 4 * p1 + 4 - f = 0 by omega]; rfl, oka, hP⟩⟩)
  · skip
    refine lv_aload_n S.1 S.2.1 dX2_workPart_27 rfl (lv_at hl 0 rfl) ?_
    refine gfX2_29 S hK hH d0 dX2_workPart_28 ?_
    refine lv_iload_n S.1 S.2.1 dX2_workPart_31 rfl (lv_at hl 2 rfl) ?_
    refine ald_i S hK hH d8 (by omega) (by omega) dX2_workPart_32 ?_
    refine tpi (x' := σ.2.2.2.2.1 f) (hfa f (by omega)) ?_
    refine lv_istore_n (lv' := [(3, .int (σ.2.2.2.2.1 f)), (0, .ref (D)), (1, .int (nI p1)), (2, .int (nI f))]) S.1 S.2.1 dX2_workPart_33 rfl hl (by decide) rfl (fun ls hl => ?_)
    refine lv_iload_n S.1 S.2.1 dX2_workPart_34 rfl (lv_at hl 0 rfl) ?_
    refine lv_if_lt (tgt := 64) S.1 S.2.1 dX2_workPart_35 (by decide) (fun c35 => ?_) (fun c35 => ?_)
    · skip
      have hsk : ¬ (0 ≤ (σ.2.2.2.2.1 f).toInt ∧ (σ.2.2.2.2.1 f).toInt < σ.2.2.1) := fun e => absurd c35 (nneg e.1)
      refine lv_iinc (v := nI (f + 1)) (lv' := [(2, .int (nI (f + 1))), (3, .int (σ.2.2.2.2.1 f)), (0, .ref (D)), (1, .int (nI p1))]) S.1 S.2.1 dX2_workPart_64 hl (k := 3) rfl (nI_inc _ 1) (by decide) rfl (fun ls hl => ?_)
      refine lv_goto (tgt := 18) S.1 S.2.1 dX2_workPart_67 (by decide) ?_
      exact ih18 _ _ _ _ (by omega) ⟨f + 1, A, P, Z, _, _, v, lv_sub hl [2, 3, 0] rfl, hH, d0, d5, d6, d7, d8, d9, dm, hP, hT, hZ, hpl, hF, hbr, by omega, by omega, oka, hw.trans (wpi_skip (by omega) hsk), rfl⟩
    · skip
      refine lv_iload_n S.1 S.2.1 dX2_workPart_38 rfl (lv_at hl 0 rfl) ?_
      refine lv_aload_n S.1 S.2.1 dX2_workPart_39 rfl (lv_at hl 1 rfl) ?_
      refine gfX2_21 S hK hH d0 dX2_workPart_40 ?_
      refine lv_icmp_ge (tgt := 64) S.1 S.2.1 dX2_workPart_43 (by decide) (fun c43 => ?_) (fun c43 => ?_)
      · skip
        have hsk : ¬ (0 ≤ (σ.2.2.2.2.1 f).toInt ∧ (σ.2.2.2.2.1 f).toInt < σ.2.2.1) := fun e => absurd c43 (nbig (by omega) e.2)
        refine lv_iinc (v := nI (f + 1)) (lv' := [(2, .int (nI (f + 1))), (3, .int (σ.2.2.2.2.1 f)), (0, .ref (D)), (1, .int (nI p1))]) S.1 S.2.1 dX2_workPart_64 hl (k := 3) rfl (nI_inc _ 1) (by decide) rfl (fun ls hl => ?_)
        refine lv_goto (tgt := 18) S.1 S.2.1 dX2_workPart_67 (by decide) ?_
        exact ih18 _ _ _ _ (by omega) ⟨f + 1, A, P, Z, _, _, v, lv_sub hl [2, 3, 0] rfl, hH, d0, d5, d6, d7, d8, d9, dm, hP, hT, hZ, hpl, hF, hbr, by omega, by omega, oka, hw.trans (wpi_skip (by omega) hsk), rfl⟩
      · skip
        obtain ⟨hh, hh1, hh2⟩ := ix_in c35 c43 (by omega)
        rw [hh2] at hl
        obtain ⟨ra, rae, rai, rav⟩ := hhy hh hh1
        have rain := isP_in rai
        have ral := isP_lt (by omega) rai
        refine lv_aload_n S.1 S.2.1 dX2_workPart_46 rfl (lv_at hl 1 rfl) ?_
        refine gfX2_38 S hK hH d0 dX2_workPart_47 ?_
        refine lv_aload_n S.1 S.2.1 dX2_workPart_50 rfl (lv_at hl 1 rfl) ?_
        refine gfX2_18 S hK hH d0 dX2_workPart_51 ?_
        refine lv_iload_n S.1 S.2.1 dX2_workPart_54 rfl (lv_at hl 0 rfl) ?_
        refine ald_a S hK hH d6 (by omega) (by omega) (rae) dX2_workPart_55 ?_
        refine ck_i (run_VN (As := [.ref (ra)]) (rest := []) S hK hH (kX0_multiplyBy (D + 9) (D + 22) P T Z ra (pool ra).1 A (pool ra).2 bg mf d9 dm hP hZ (hpl ra rai).1 oka (hpl ra rai).2 (by omega) (by omega) (by omega) (by omega) (by omega) (by omega) (by omega) (by omega) (by omega) (by omega)) ceX0_multiplyBy mN226 d9 rfl rfl hl.1 rfl (Nat.le_of_ble_eq_true rfl) dX2_workPart_56 ⟨rfl, rfl, by decide, by decide⟩ ⟨show 0 + 0 ≤ 0 by omega, show 0 + 0 ≤ 0 by omega⟩) hH (fun r56 w2 n2 H locs hp hH => ?_)
        obtain ⟨hn1, hfr, ⟨⟨bg, d9⟩, ⟨mf, dm⟩, hxr, hPr, hq3⟩⟩ := hp
        rw [hn1] at hH
        replace hq3 : Hid _ := hq3
        replace d0 := (hfr (D) (by omega)).trans d0
        replace d5 := (hfr (D + 5) (by omega)).trans d5
        replace d6 := (hfr (D + 6) (by omega)).trans d6
        replace d7 := (hfr (D + 7) (by omega)).trans d7
        replace d8 := (hfr (D + 8) (by omega)).trans d8
        replace hT := hT.kept (fun b h1 h2 => hfr b (by omega))
        replace hF : ∀ b, (D + 23 ≤ b ∧ b < D + 36) ∨ (T ≤ b ∧ b < T + 4) → w2 b = w b := fun b hb => (hfr b (by omega)).trans (hF b hb)
        have hpl := hpl.after rai hxr (fun b h1 h2 h3 h4 => hfr b (by omega))
        refine lv_if_ne (tgt := 64) S.1 S.2.1 dX2_workPart_59 (by decide) (fun c59 => ?_) (fun c59 => ?_)
        · skip
          rcases hq3 with ⟨_, M, e1, hPM⟩ | ⟨e, _⟩
          rotate_left
          · exact absurd e c59
          have okm := pmul_ok oka (hpl ra rai).2 e1
          rw [rav] at e1
          refine lv_iinc (v := nI (f + 1)) (lv' := [(2, .int (nI (f + 1))), (3, .int (nI hh)), (0, .ref (D)), (1, .int (nI p1))]) S.1 S.2.1 dX2_workPart_64 hl (k := 3) rfl (nI_inc _ 1) (by decide) rfl (fun ls hl => ?_)
          refine lv_goto (tgt := 18) S.1 S.2.1 dX2_workPart_67 (by decide) ?_
          exact ih18 _ _ _ _ (by omega) ⟨f + 1, M, Z, P, _, _, w2, lv_sub hl [2, 3, 0] rfl, hH, d0, d5, d6, d7, d8, d9, dm, hPM, hT, hPr, hpl, hF, br_sw hbr, by omega, by omega, okm, hw.trans (wpi_some (by omega) hh1 (by omega) hh2 e1), rfl⟩
        · skip
          rcases hq3 with ⟨e, _⟩ | ⟨_, e1, hPM⟩
          · rw [e] at c59; exact absurd c59 (by decide)
          rw [rav] at e1
          refine lv_iconst (v := nI 0) S.1 S.2.1 dX2_workPart_62 (by decide) ?_
          exact rt_z S hr hlk hH dX2_workPart_63 (by decide) (⟨rfl, hF, Z, P, br_sw hbr, ⟨d0, d5, d6, d7, d8, ⟨_, d9⟩, ⟨_, dm⟩, hPM, hT, hPr, hpl⟩, Or.inr ⟨rfl, hw.trans (wpi_none (by omega) hh1 (by omega) hh2 e1)⟩⟩)

set_option maxHeartbeats 4000000 in
set_option maxRecDepth 100000 in
theorem kX2_judge {l : Launch} {G : Gx} {B : Nat} {w : Wm} {n : Nat} (D xa : Nat) (k : Int) (rg hy : Nat → Option Nat) (nums facs : Nat → Int32) (P T Z : Nat) (pool : Nat → Nat × PL) (σ : St) (hd : DeskC G w n D rg hy σ.2.2.1 nums facs σ.2.2.2.2.2 P T Z pool) (hi : DeskI D n rg hy nums facs P T Z pool σ) (xai : isP D n xa) (hk : 1 ≤ k ∧ k ≤ 99999999) : Met l yX2_judge (wsM yX2_judge cX2_judge 5 (some .int)) ({ frames := 6, cells := 4, slots := 141, locals := 144 } : Room) (Pcx G B w n [.ref (D), .ref (xa), .int (iI k)]) (Qi G B (fun r w' n' => (n' = n ∨ n' = n + 4) ∧ (∀ b, (D + 23 ≤ b ∧ b < D + 36) → w' b = w b) ∧ r = showA σ (pool xa).2 k ∧ DeskS G w' n' D σ)) 4 141 (FA B) := by
  refine en (by decide) (Nat.le_of_ble_eq_true rfl) ?_
  intro p ev s mm ag bl mt co S hr hlk hnm hK H hH ls hl
  have hl : lv_has ls 5 [(0, .ref (D)), (1, .ref (xa)), (2, .int (iI k))] := hl
  have hd0 := hd
  obtain ⟨d0, d5, d6, d7, d8, ⟨bg, d9⟩, ⟨mf, dm⟩, hP, hT, hZ, hpl⟩ := hd
  obtain ⟨hbr, hj, hhc, hpc, hrg, hhy, hnu, hfa⟩ := id hi
  unfold BR at hbr
  have xain := isP_in xai
  have xal := isP_lt (by omega) xai
  have hF : ∀ b, D + 23 ≤ b ∧ b < D + 36 → w b = w b := fun _ _ => rfl
  refine lv_aload_n S.1 S.2.1 dX2_judge_0 rfl (lv_at hl 0 rfl) ?_
  refine ck_ip (run_V (As := []) (rest := []) S hK hH (kX2_factorsAreThere D rg hy nums facs P T Z pool σ hd0 hi) ceX2_factorsAreThere mW279 d0 rfl rfl hl.1 rfl (Nat.le_of_ble_eq_true rfl) dX2_judge_1 ⟨rfl, rfl, by decide, by decide⟩ ⟨show 0 + 0 ≤ 4 by omega, show 0 + 0 ≤ 141 by omega⟩) hH (fun r1 H locs hp hH => ?_)
  have hq1 : Hid _ := hp
  clear hp
  refine lv_if_ne (tgt := 9) S.1 S.2.1 dX2_judge_4 (by decide) (fun c4 => ?_) (fun c4 => ?_)
  · skip
    rcases hq1 with ⟨_, hth⟩ | ⟨e, _⟩
    rotate_left
    · exact absurd e c4
    refine lv_aload_n S.1 S.2.1 dX2_judge_9 rfl (lv_at hl 0 rfl) ?_
    refine gfX2_38 S hK hH d0 dX2_judge_10 ?_
    refine lv_lconst (v := lI 0) S.1 S.2.1 dX2_judge_13 (by decide) ?_
    refine tpl (x' := lN 0) (rfl) ?_
    refine lv_iload_n S.1 S.2.1 dX2_judge_14 rfl (lv_at hl 2 rfl) ?_
    refine ck_v (run_VN (As := [.long (lN 0), .int (iI k)]) (rest := []) S hK hH (kX0_beginProduct (D + 9) P 0 k (.ref T) (.ref Z) (.ref (D + 22)) (.int bg) d9 hP (by omega) (by omega)) ceX0_beginProduct mN106 d9 rfl rfl hl.1 rfl (Nat.le_of_ble_eq_true rfl) dX2_judge_15 ⟨rfl, rfl, by decide, by decide⟩ ⟨show 0 + 0 ≤ 4 by omega, show 0 + 0 ≤ 141 by omega⟩) hH (fun w2 n2 H locs hp hH => ?_)
    obtain ⟨hn1, hfr, hP⟩ := hp
    rw [hn1] at hH
    replace d0 := (hfr (D) (by omega)).trans d0
    replace d5 := (hfr (D + 5) (by omega)).trans d5
    replace d6 := (hfr (D + 6) (by omega)).trans d6
    replace d7 := (hfr (D + 7) (by omega)).trans d7
    replace d8 := (hfr (D + 8) (by omega)).trans d8
    replace d9 := (hfr (D + 9) (by omega)).trans d9
    replace dm := (hfr (D + 22) (by omega)).trans dm
    replace hT := hT.kept (fun b h1 h2 => hfr b (by omega))
    replace hZ := hZ.kept (fun b h1 h2 => hfr b (by omega))
    replace hpl := hpl.kept (fun b h1 h2 => hfr b (by omega))
    replace hF : ∀ b, D + 23 ≤ b ∧ b < D + 36 → w2 b = w b := fun b hb => (hfr b (by omega)).trans (hF b hb)
    refine lv_aload_n S.1 S.2.1 dX2_judge_18 rfl (lv_at hl 0 rfl) ?_
    refine gfX2_38 S hK hH d0 dX2_judge_19 ?_
    refine lv_aload_n S.1 S.2.1 dX2_judge_22 rfl (lv_at hl 1 rfl) ?_
    refine ck_i (run_VN (As := [.ref (xa)]) (rest := []) S hK hH (kX0_multiplyBy (D + 9) (D + 22) P T Z xa (pool xa).1 (one 0 k) (pool xa).2 bg mf d9 dm hP hZ (hpl xa xai).1 (one_ok vC_0 (by omega)) (hpl xa xai).2 (by omega) (by omega) (by omega) (by omega) (by omega) (by omega) (by omega) (by omega) (by omega) (by omega)) ceX0_multiplyBy mN226 d9 rfl rfl hl.1 rfl (Nat.le_of_ble_eq_true rfl) dX2_judge_23 ⟨rfl, rfl, by decide, by decide⟩ ⟨show 0 + 0 ≤ 4 by omega, show 0 + 0 ≤ 141 by omega⟩) hH (fun r23 w3 n3 H locs hp hH => ?_)
    obtain ⟨hn1, hfr, ⟨⟨bg, d9⟩, ⟨mf, dm⟩, hxr, hPr, hq3⟩⟩ := hp
    rw [hn1] at hH
    replace hq3 : Hid _ := hq3
    replace d0 := (hfr (D) (by omega)).trans d0
    replace d5 := (hfr (D + 5) (by omega)).trans d5
    replace d6 := (hfr (D + 6) (by omega)).trans d6
    replace d7 := (hfr (D + 7) (by omega)).trans d7
    replace d8 := (hfr (D + 8) (by omega)).trans d8
    replace hT := hT.kept (fun b h1 h2 => hfr b (by omega))
    replace hF : ∀ b, D + 23 ≤ b ∧ b < D + 36 → w3 b = w b := fun b hb => (hfr b (by omega)).trans (hF b hb)
    have hpl := hpl.after xai hxr (fun b h1 h2 h3 h4 => hfr b (by omega))
    refine lv_if_ne (tgt := 32) S.1 S.2.1 dX2_judge_26 (by decide) (fun c26 => ?_) (fun c26 => ?_)
    · skip
      rcases hq3 with ⟨_, M0, e0, hPM⟩ | ⟨e, _⟩
      rotate_left
      · exact absurd e c26
      have ok0 := pmul_ok (one_ok vC_0 (by omega)) (hpl xa xai).2 e0
      obtain ⟨kz, pz, hz1, _⟩ := hPM
      refine lv_aload_n S.1 S.2.1 dX2_judge_32 rfl (lv_at hl 0 rfl) ?_
      refine gfX2_38 S hK hH d0 dX2_judge_33 ?_
      refine gfX2_52 S hK hH d9 dX2_judge_36 ?_
      refine ck_r (run_VN (As := []) (rest := []) S hK hH (kX1_copied Z 60 M0 kz pz hz1 ok0.ok (by omega)) ceX1_copied mN124 hz1.ob rfl rfl hl.1 rfl (Nat.le_of_ble_eq_true rfl) dX2_judge_39 ⟨rfl, rfl, by decide, by decide⟩ ⟨show 0 + 4 ≤ 4 by omega, show 0 + 141 ≤ 141 by omega⟩) hH (fun r39 w4 n4 H locs hp hH => ?_)
      obtain ⟨hr1, hn1, hfr, hnew⟩ := hp
      rw [hn1] at hH
      have hr1 := hr1.symm
      subst hr1
      have hpl := hpl.push hj (M := M0) ⟨0, _, hnew, fun e => absurd e (by decide)⟩ ok0 (fun b h1 h2 h3 => hfr b (by omega))
      replace d0 := (hfr (D) (by omega)).trans d0
      replace d5 := (hfr (D + 5) (by omega)).trans d5
      replace d6 := (hfr (D + 6) (by omega)).trans d6
      replace d7 := (hfr (D + 7) (by omega)).trans d7
      replace d8 := (hfr (D + 8) (by omega)).trans d8
      replace d9 := (hfr (D + 9) (by omega)).trans d9
      replace dm := (hfr (D + 22) (by omega)).trans dm
      replace hT := hT.kept (fun b h1 h2 => hfr b (by omega))
      replace hPr := hPr.kept (fun b h1 h2 => hfr b (by omega))
      replace hz1 := hz1.kept (fun b h1 h2 => hfr b (by omega))
      replace hF : ∀ b, D + 23 ≤ b ∧ b < D + 36 → w4 b = w b := fun b hb => (hfr b (by omega)).trans (hF b hb)
      clear hnew
      have hi2 := push_I (M := M0) hi
      refine lv_astore_n (lv' := [(3, .ref (n)), (0, .ref (D)), (1, .ref (xa)), (2, .int (iI k))]) S.1 S.2.1 dX2_judge_42 rfl hl (by decide) rfl (fun ls hl => ?_)
      refine lv_aload_n S.1 S.2.1 dX2_judge_43 rfl (lv_at hl 1 rfl) ?_
      refine gfX2_38 S hK hH d0 dX2_judge_44 ?_
      refine ck_v (run_VN (As := []) (rest := []) S hK hH (kX0_beginTotal (D + 9) T (.ref Z) (.ref P) (.ref (D + 22)) (.int bg) d9 hT) ceX0_beginTotal mN205 d9 rfl rfl hl.1 rfl (Nat.le_of_ble_eq_true rfl) dX2_judge_47 ⟨rfl, rfl, by decide, by decide⟩ ⟨show (0 + 4) + 0 ≤ 4 by omega, show (0 + 141) + 0 ≤ 141 by omega⟩) hH (fun w5 n5 H locs hp hH => ?_)
      obtain ⟨hn1, hfr, hT⟩ := hp
      rw [hn1] at hH
      replace d0 := (hfr (D) (by omega)).trans d0
      replace d5 := (hfr (D + 5) (by omega)).trans d5
      replace d6 := (hfr (D + 6) (by omega)).trans d6
      replace d7 := (hfr (D + 7) (by omega)).trans d7
      replace d8 := (hfr (D + 8) (by omega)).trans d8
      replace d9 := (hfr (D + 9) (by omega)).trans d9
      replace dm := (hfr (D + 22) (by omega)).trans dm
      replace hpl := hpl.kept (fun b h1 h2 => hfr b (by omega))
      replace hPr := hPr.kept (fun b h1 h2 => hfr b (by omega))
      replace hz1 := hz1.kept (fun b h1 h2 => hfr b (by omega))
      replace hF : ∀ b, D + 23 ≤ b ∧ b < D + 36 → w5 b = w b := fun b hb => (hfr b (by omega)).trans (hF b hb)
      refine lv_iconst (v := nI 0) S.1 S.2.1 dX2_judge_50 (by decide) ?_
      refine lv_istore (lv' := [(4, .int (nI 0)), (3, .ref (n)), (0, .ref (D)), (1, .ref (xa)), (2, .int (iI k))]) S.1 S.2.1 dX2_judge_51 hl (by decide) rfl (fun ls hl => ?_)
      refine wlp (P := fun k_ ls H' locs' => ∃ (p1 : Nat) (acc : PL) (P T Z : Nat) (bg : Int32) (mf : Nat → Int32) (v : Wm), lv_has ls 5 [(0, .ref (D)), (3, .ref (n)), (4, .int (nI p1))] ∧ HS G B v (n + 4) s H' locs' ∧ v (D) = some (eO 2 [.ref (D + 5), .ref (D + 6), .int (nI (σ.2.2.1)), .ref (D + 7), .ref (D + 8), .int (nI (σ.2.2.2.2.2)), .ref (D + 9)]) ∧ v (D + 5) = some (eQ G (16) (rg)) ∧ v (D + 6) = some (eQ G (40) (hy)) ∧ v (D + 7) = some (eI G (20) (nums)) ∧ v (D + 8) = some (eI G (80) (facs)) ∧ v (D + 9) = some (eO 0 [.ref (P), .ref (T), .ref (Z), .ref (D + 22), .int (bg)]) ∧ v (D + 22) = some (eI G (60) (mf)) ∧ (PolyR G v P) ∧ (PolyAt G v T 60 acc) ∧ (PolyR G v Z) ∧ (PoolOK G v (n + 4) D (va_up pool n (M0.length, M0))) ∧ (∀ b, D + 23 ≤ b ∧ b < D + 36 → v b = w b) ∧ (BR D P T Z) ∧ (p1 ≤ σ.2.2.2.2.2) ∧ (okP acc) ∧ (psum σ.2.1 σ.2.2.1 σ.2.2.2.1 σ.2.2.2.2.1 0 σ.2.2.2.2.2 [] = psum σ.2.1 σ.2.2.1 σ.2.2.2.1 σ.2.2.2.2.1 p1 (σ.2.2.2.2.2 - p1) acc) ∧ k_ = σ.2.2.2.2.2 - p1) ?_ (k0 := σ.2.2.2.2.2 - (0)) ⟨0, [], Z, T, P, _, _, w5, lv_sub hl [2, 1, 0] rfl, hH, d0, d5, d6, d7, d8, d9, dm, ⟨_, _, _, hz1⟩, hT, hPr, hpl, hF, br_sw hbr, by omega, okP_nil, rfl, rfl⟩
      intro k53 ls H locs hP ih53
      obtain ⟨p1, acc, P, T, Z, bg, mf, v, hl, hH, d0, d5, d6, d7, d8, d9, dm, hP, hT, hZ, hpl, hF, hbr, hp0, oka, hw, hk53⟩ := hP
      unfold BR at hbr
      refine lv_iload S.1 S.2.1 dX2_judge_53 (lv_at hl 2 rfl) ?_
      refine lv_aload_n S.1 S.2.1 dX2_judge_55 rfl (lv_at hl 0 rfl) ?_
      refine gfX2_32 S hK hH d0 dX2_judge_56 ?_
      refine bn_ge (tgt := 90) S dX2_judge_59 (by decide) (by omega) (fun c59 => ?_) (fun c59 => ?_)
      · skip
        refine lv_aload_n S.1 S.2.1 dX2_judge_90 rfl (lv_at hl 0 rfl) ?_
        refine gfX2_38 S hK hH d0 dX2_judge_91 ?_
        refine gfX2_89 S hK hH d9 dX2_judge_94 ?_
        refine lv_aload_n S.1 S.2.1 dX2_judge_97 rfl (lv_at hl 1 rfl) ?_
        obtain ⟨kt, pt, ht1, _⟩ := id hT
        obtain ⟨kn, pn0, hn2, _⟩ := (hpl n (Or.inr ⟨hj.1, hj.2, Nat.le_refl _⟩)).1
        rw [va_up_self] at hn2
        refine ck_ip (run_VN (As := [.ref (n)]) (rest := []) S hK hH (kX1_matches T 60 acc kt pt n M0.length M0 kn pn0 ht1 hn2 oka.ok.B ok0.ok.B) ceX1_matches mN246 ht1.ob rfl rfl hl.1 rfl (Nat.le_of_ble_eq_true rfl) dX2_judge_98 ⟨rfl, rfl, by decide, by decide⟩ ⟨show (0 + 4) + 0 ≤ 4 by omega, show (0 + 141) + 0 ≤ 141 by omega⟩) hH (fun r98 H locs hp hH => ?_)
        have hq6 : Hid _ := hp
        clear hp
        refine lv_if_eq (tgt := 108) S.1 S.2.1 dX2_judge_101 (by decide) (fun c101 => ?_) (fun c101 => ?_)
        · skip
          rcases hq6 with ⟨e, _⟩ | ⟨_, he⟩
          · rw [e] at c101; exact absurd c101 (by decide)
          refine lv_iconst (v := nI 0) S.1 S.2.1 dX2_judge_108 (by decide) ?_
          refine W.widen (k := 4) (n := 141) (by omega) (by omega) ?_
          exact rt_i S hr hlk hH dX2_judge_109 (⟨Or.inr rfl, hF, by rw [show_3 hth e0 (hw.trans (psum_end c59)), if_neg he]; rfl, _, _, _, _, P, T, Z, _, ⟨d0, d5, d6, d7, d8, ⟨_, d9⟩, ⟨_, dm⟩, hP, hT.raw, hZ, hpl⟩, hi2.br hbr⟩)
        · skip
          rcases hq6 with ⟨_, he⟩ | ⟨e, _⟩
          rotate_left
          · exact absurd e c101
          refine lv_iconst (v := nI 1) S.1 S.2.1 dX2_judge_104 (by decide) ?_
          refine lv_goto (tgt := 109) S.1 S.2.1 dX2_judge_105 (by decide) ?_
          refine W.widen (k := 4) (n := 141) (by omega) (by omega) ?_
          exact rt_i S hr hlk hH dX2_judge_109 (⟨Or.inr rfl, hF, by rw [show_3 hth e0 (hw.trans (psum_end c59)), if_pos he]; rfl, _, _, _, _, P, T, Z, _, ⟨d0, d5, d6, d7, d8, ⟨_, d9⟩, ⟨_, dm⟩, hP, hT.raw, hZ, hpl⟩, hi2.br hbr⟩)
      · skip
        refine lv_aload_n S.1 S.2.1 dX2_judge_62 rfl (lv_at hl 0 rfl) ?_
        refine lv_iload S.1 S.2.1 dX2_judge_63 (lv_at hl 2 rfl) ?_
        refine ck_i (run_V (As := [.int (nI p1)]) (rest := []) S hK hH (kX2_workPart D p1 rg hy nums facs P T Z (va_up pool n (M0.length, M0)) σ ⟨d0, d5, d6, d7, d8, ⟨_, d9⟩, ⟨_, dm⟩, hP, hT.raw, hZ, hpl⟩ (hi2.br hbr) c59) ceX2_workPart mW283 d0 rfl rfl hl.1 rfl (Nat.le_of_ble_eq_true rfl) dX2_judge_65 ⟨rfl, rfl, by decide, by decide⟩ ⟨show (0 + 4) + 0 ≤ 4 by omega, show (0 + 141) + 0 ≤ 141 by omega⟩) hH (fun r65 w7 n7 H locs hp hH => ?_)
        obtain ⟨hn1, hfr, P, Z, hbr, hd, hq4⟩ := hp
        rw [hn1] at hH
        replace hq4 : Hid _ := hq4
        replace hT := hT.kept (fun b h1 h2 => hfr b (Or.inr ⟨h1, h2⟩))
        obtain ⟨d0, d5, d6, d7, d8, ⟨bg, d9⟩, ⟨mf, dm⟩, hP, _, hZ, hpl⟩ := hd
        replace hF : ∀ b, (D + 23 ≤ b ∧ b < D + 36) → w7 b = w b := fun b hb => (hfr b (Or.inl hb)).trans (hF b hb)
        unfold BR at hbr
        refine lv_if_eq (tgt := 81) S.1 S.2.1 dX2_judge_68 (by decide) (fun c68 => ?_) (fun c68 => ?_)
        · skip
          rcases hq4 with ⟨e, _⟩ | ⟨_, e1⟩
          · rw [e] at c68; exact absurd c68 (by decide)
          refine lv_bipush (v := (-2)) S.1 S.2.1 dX2_judge_81 (by decide) ?_
          refine W.widen (k := 4) (n := 141) (by omega) (by omega) ?_
          exact rt_i S hr hlk hH dX2_judge_83 (⟨Or.inr rfl, hF, by rw [show_2 hth e0 (hw.trans (psum_none1 c59 e1))], _, _, _, _, P, T, Z, _, ⟨d0, d5, d6, d7, d8, ⟨_, d9⟩, ⟨_, dm⟩, hP, hT.raw, hZ, hpl⟩, hi2.br hbr⟩)
        · skip
          rcases hq4 with ⟨_, M, e1, okm, hPM⟩ | ⟨e, _⟩
          rotate_left
          · exact absurd e c68
          refine lv_aload_n S.1 S.2.1 dX2_judge_71 rfl (lv_at hl 0 rfl) ?_
          refine gfX2_38 S hK hH d0 dX2_judge_72 ?_
          refine ck_i (run_VN (As := []) (rest := []) S hK hH (kX0_addProduct (D + 9) (D + 22) P T Z acc M bg d9 hT hPM hZ oka okm (by omega) (by omega) (by omega) (by omega) (by omega)) ceX0_addProduct mN230 d9 rfl rfl hl.1 rfl (Nat.le_of_ble_eq_true rfl) dX2_judge_75 ⟨rfl, rfl, by decide, by decide⟩ ⟨show (0 + 4) + 0 ≤ 4 by omega, show (0 + 141) + 0 ≤ 141 by omega⟩) hH (fun r75 w8 n8 H locs hp hH => ?_)
          obtain ⟨hn1, hfr, ⟨⟨bg, d9⟩, hq5⟩⟩ := hp
          rw [hn1] at hH
          replace hq5 : Hid _ := hq5
          have hTr := hT.raw
          replace hTr := hTr.kept (fun b h1 h2 => hfr b (by omega))
          replace d0 := (hfr (D) (by omega)).trans d0
          replace d5 := (hfr (D + 5) (by omega)).trans d5
          replace d6 := (hfr (D + 6) (by omega)).trans d6
          replace d7 := (hfr (D + 7) (by omega)).trans d7
          replace d8 := (hfr (D + 8) (by omega)).trans d8
          replace dm := (hfr (D + 22) (by omega)).trans dm
          replace hP := hP.kept (fun b h1 h2 => hfr b (by omega))
          replace hpl := hpl.kept (fun b h1 h2 => hfr b (by omega))
          replace hPM := hPM.kept (fun b h1 h2 => hfr b (by omega))
          replace hF : ∀ b, D + 23 ≤ b ∧ b < D + 36 → w8 b = w b := fun b hb => (hfr b (by omega)).trans (hF b hb)
          refine lv_if_ne (tgt := 84) S.1 S.2.1 dX2_judge_78 (by decide) (fun c78 => ?_) (fun c78 => ?_)
          · skip
            rcases hq5 with ⟨_, A2, e2, hTM⟩ | ⟨e, _⟩
            rotate_left
            · exact absurd e c78
            have ok2 := padd_ok oka okm e2
            refine lv_iinc (v := nI (p1 + 1)) (lv' := [(4, .int (nI (p1 + 1))), (0, .ref (D)), (3, .ref (n))]) S.1 S.2.1 dX2_judge_84 hl (k := 2) rfl (nI_inc _ 1) (by decide) rfl (fun ls hl => ?_)
            refine lv_goto (tgt := 53) S.1 S.2.1 dX2_judge_87 (by decide) ?_
            exact ih53 _ _ _ _ (by omega) ⟨p1 + 1, A2, P, Z, T, _, _, w8, lv_sub hl [1, 2, 0] rfl, hH, d0, d5, d6, d7, d8, d9, dm, hPM.raw, hTM, hTr, hpl, hF, br_sx hbr, by omega, ok2, hw.trans (psum_some c59 e1 e2), rfl⟩
          · skip
            rcases hq5 with ⟨e, _⟩ | ⟨_, e2, hTM⟩
            · rw [e] at c78; exact absurd c78 (by decide)
            refine lv_bipush (v := (-2)) S.1 S.2.1 dX2_judge_81 (by decide) ?_
            refine W.widen (k := 4) (n := 141) (by omega) (by omega) ?_
            exact rt_i S hr hlk hH dX2_judge_83 (⟨Or.inr rfl, hF, by rw [show_2 hth e0 (hw.trans (psum_none2 c59 e1 e2))], _, _, _, _, P, Z, T, _, ⟨d0, d5, d6, d7, d8, ⟨_, d9⟩, ⟨_, dm⟩, hPM.raw, hTM, hTr, hpl⟩, hi2.br (br_sx hbr)⟩)
    · skip
      rcases hq3 with ⟨e, _⟩ | ⟨_, e0, hPM⟩
      · rw [e] at c26; exact absurd c26 (by decide)
      refine lv_bipush (v := (-2)) S.1 S.2.1 dX2_judge_29 (by decide) ?_
      refine W.widen (k := 4) (n := 141) (by omega) (by omega) ?_
      exact rt_i S hr hlk hH dX2_judge_31 (⟨Or.inl rfl, hF, by rw [show_1 hth e0], _, _, _, _, Z, T, P, _, ⟨d0, d5, d6, d7, d8, ⟨_, d9⟩, ⟨_, dm⟩, hPM, hT, hPr, hpl⟩, hi.br (br_sw hbr)⟩)
  · skip
    rcases hq1 with ⟨e, _⟩ | ⟨_, hth⟩
    · rw [e] at c4; exact absurd c4 (by decide)
    refine lv_iconst (v := nI 0) S.1 S.2.1 dX2_judge_7 (by decide) ?_
    refine W.widen (k := 4) (n := 141) (by omega) (by omega) ?_
    exact rt_i S hr hlk hH dX2_judge_8 (⟨Or.inl rfl, hF, by rw [show_no hth]; rfl, _, _, _, _, P, T, Z, _, ⟨d0, d5, d6, d7, d8, ⟨_, d9⟩, ⟨_, dm⟩, hP, hT, hZ, hpl⟩, hi⟩)

