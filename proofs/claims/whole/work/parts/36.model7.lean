theorem hO_pf {σ : St} {Sl : Nat → PL} {nu f1 f2 f3 f4 : Nat → Int32} {t k : Nat} (h : ModI σ Sl nu f1 f2 f3 f4) (ht : t < σ.2.2.2.2.2) (hk : k < 4) : hO f1 f2 f3 f4 t k = σ.2.2.2.2.1 (4 * t + k) := by
  obtain ⟨-, -, g1, g2, g3, g4⟩ := h.2.2.2.2 t ht
  unfold hO
  by_cases q0 : k = 0
  · rw [if_pos q0, q0]; exact g1
  · rw [if_neg q0]
    by_cases q1 : k = 1
    · rw [if_pos q1, q1]; exact g2
    · rw [if_neg q1]
      by_cases q2 : k = 2
      · rw [if_pos q2, q2]; exact g3
      · rw [if_neg q2, show k = 3 by omega]; exact g4
theorem sl_58 {S0 Sl : Nat → PL} {K : PL} (h : ∀ i, i < 56 → S0 i = Sl i) : ∃ S', S' = va_up Sl 58 K ∧ (∀ i, i < 56 → S' i = S0 i) ∧ S' 58 = K := ⟨_, rfl, fun i hi => by rw [va_up_ne _ _ (by omega)]; exact (h i hi).symm, va_up_self _ _ _⟩
theorem sl_58b {S0 Sl : Nat → PL} {K : PL} (h : ∀ i, i < 56 → Sl i = S0 i) : ∃ S', S' = va_up Sl 58 K ∧ (∀ i, i < 56 → S' i = S0 i) ∧ S' 58 = K := ⟨_, rfl, fun i hi => by rw [va_up_ne _ _ (by omega)]; exact h i hi, va_up_self _ _ _⟩
theorem hf_in {x : Int32} {N : Nat} (h : ¬ x < 0) (h2 : x.toInt < N) : ∃ i, i < N ∧ x = nI i := by
  have h3 := nlt0 h
  have h4 := x.toInt_lt
  refine ⟨x.toInt.toNat, by omega, ?_⟩
  rw [← Int32.toInt_inj, nI_toInt (by omega)]
  omega
theorem GW_4 {i : Nat} (h : 4 ≤ i) (h2 : i ≤ 4) : i = 4 := by omega
section GW
variable {Sl : Nat → PL} {o : Option PL} {Hh : Nat → PL} {hc t i h : Nat} {pf : Nat → Int32} {A : PL} {r : Int32} {ma : Nat → Int32} {gc gh gl : Nat → Int64}
theorem GW_s (hi : i < 4) (hh : h < hc) (hb : hc < 2 ^ 31) (hx : pf (4 * t + i) = nI h) (hA : Sl 57 = A) (hF : Sl (16 + h) = Hh h) (hw : o = wpi Hh hc pf (4 * t + i) (4 * t + 4 - (4 * t + i)) A) (hq : (r = 1 ∧ ∃ K, pmul (Sl 57) (Sl (16 + h)) = some K ∧ SlotsOK ma gc gh gl (va_up Sl 57 K)) ∨ (r = 0 ∧ pmul (Sl 57) (Sl (16 + h)) = none ∧ SlotsOK ma gc gh gl Sl)) : ∃ S', SlotsOK ma gc gh gl S' ∧ (∀ i, i ≠ 57 → S' i = Sl i) ∧ GP S' r o (wpi Hh hc pf (4 * t + (i + 1)) (4 * t + 4 - (4 * t + (i + 1)))) := by
  rw [hA, hF] at hq
  rcases hq with ⟨e, K, e1, e2⟩ | ⟨e, e1, e2⟩
  · exact ⟨_, e2, fun i hi => va_up_ne _ _ hi, Or.inl ⟨e, K, va_up_self _ _ _, hw.trans (wpi_some (by omega) hh hb hx e1)⟩⟩
  · exact ⟨_, e2, fun i _ => rfl, Or.inr ⟨e, hw.trans (wpi_none (by omega) hh hb hx e1)⟩⟩
theorem GW_k {S0 : Nat → PL} {acc W0 : PL} {f : PL → Option PL} (h : ∃ S', SlotsOK ma gc gh gl S' ∧ (∀ i, i ≠ 57 → S' i = Sl i) ∧ GP S' r o f) (h5 : ∀ i, i < 56 → Sl i = S0 i) (ha : Sl 56 = acc) (h8 : Sl 58 = W0) : ∃ S', SlotsOK ma gc gh gl S' ∧ (∀ i, i < 56 → S' i = S0 i) ∧ S' 56 = acc ∧ S' 58 = W0 ∧ GP S' r o f := by
  obtain ⟨S', g1, g2, g3⟩ := h
  exact ⟨S', g1, fun i hi => (g2 i (by omega)).trans (h5 i hi), (g2 56 (by omega)).trans ha, (g2 58 (by omega)).trans h8, g3⟩
end GW

set_option maxHeartbeats 4000000 in
set_option maxRecDepth 100000 in
theorem kX3_show {l : Launch} {G : Gx} {B : Nat} {w : Wm} {n : Nat} (M : Nat) (x k : Int32) (σ : St) (hs : ModS G w M σ) : Met l yX3_show (wsM yX3_show cX3_show 7 (some .int)) ({ frames := 4, cells := 0, slots := 0, locals := 103 } : Room) (Pcx G B w n [.ref (M), .int (x), .int (k)]) (Qi G B (fun r w' n' => n' = n ∧ (∀ b, (b < M ∨ M + 13 ≤ b) → w' b = w b) ∧ r = (sShow σ x k).1 ∧ ModS G w' M (sShow σ x k).2)) 0 0 (FA B) := by
  refine en (by decide) (Nat.le_of_ble_eq_true rfl) ?_
  intro p ev s mm ag bl mt cde S hr hlk hnm hK H hH ls hl
  have hl : lv_has ls 7 [(0, .ref (M)), (1, .int (x)), (2, .int (k))] := hl
  obtain ⟨Sl, cnt, big, ma, gc, gh, gl, fc, fh, fl, nu, f1, f2, f3, f4, m0, m1, m2, m3, m4, m5, m6, m7, m8, mz9, m10, m11, m12, hsl, hmi⟩ := hs
  obtain ⟨hrl, hhl, hhc, hpc, hpt⟩ := id hmi
  obtain ⟨z, hz1, hz2, rfl⟩ := iI_of k
  obtain ⟨S0, hS0⟩ : ∃ S0 : Nat → PL, ∀ i, i < 56 → S0 i = Sl i := ⟨Sl, fun _ _ => rfl⟩
  have hF : ∀ b, b < M ∨ M + 13 ≤ b → w b = w b := fun _ _ => rfl
  refine lv_iload_n S.1 S.2.1 dX3_show_0 rfl (lv_at hl 1 rfl) ?_
  refine ck_ip (run_S (As := [.int (x)]) (rest := []) S hK hH (kX3_is x) ceX3_is mW350 rfl hl.1 rfl (Nat.le_of_ble_eq_true rfl) dX3_show_1 ⟨rfl, rfl, by decide, by decide⟩ ⟨show 0 + 0 ≤ 0 by omega, show 0 + 0 ≤ 0 by omega⟩) hH (fun r1 H locs hp hH => ?_)
  have hq1 : Hid _ := hp
  clear hp
  refine lv_if_eq (tgt := 18) S.1 S.2.1 dX3_show_4 (by decide) (fun c4 => ?_) (fun c4 => ?_)
  · skip
    rcases hq1 with ⟨e, _⟩ | ⟨_, hb⟩
    · rw [e] at c4; exact absurd c4 (by decide)
    refine lv_iconst (v := (-1)) S.1 S.2.1 dX3_show_18 (by decide) ?_
    exact rt_i S hr hlk hH dX3_show_19 (⟨rfl, hF, by rw [sShow_bad (ri_none hb)], by rw [sShow_bad (ri_none hb)]; exact ⟨_, _, _, _, _, _, _, _, _, _, _, _, _, _, _, m0, m1, m2, m3, m4, m5, m6, m7, m8, mz9, m10, m11, m12, hsl, hmi⟩⟩)
  · skip
    rcases hq1 with ⟨_, j, hj0, rfl⟩ | ⟨e, _⟩
    rotate_left
    · exact absurd e c4
    refine lv_iload_n S.1 S.2.1 dX3_show_7 rfl (lv_at hl 2 rfl) ?_
    refine lv_iconst (v := nI 1) S.1 S.2.1 dX3_show_8 (by decide) ?_
    refine tpi (x' := iI 1) (rfl) ?_
    refine lv_icmp_lt (tgt := 18) S.1 S.2.1 dX3_show_9 (by decide) (fun c9 => ?_) (fun c9 => ?_)
    · skip
      have c9 : z < 1 := (iI_lt (by omega) (by omega)).mp c9
      refine lv_iconst (v := (-1)) S.1 S.2.1 dX3_show_18 (by decide) ?_
      exact rt_i S hr hlk hH dX3_show_19 (⟨rfl, hF, by rw [sShow_k hj0 ⟨hz1, hz2⟩ (Or.inl c9)], by rw [sShow_k hj0 ⟨hz1, hz2⟩ (Or.inl c9)]; exact ⟨_, _, _, _, _, _, _, _, _, _, _, _, _, _, _, m0, m1, m2, m3, m4, m5, m6, m7, m8, mz9, m10, m11, m12, hsl, hmi⟩⟩)
    · skip
      have c9 : ¬ z < 1 := fun q => c9 ((iI_lt (by omega) (by omega)).mpr q)
      refine lv_iload_n S.1 S.2.1 dX3_show_12 rfl (lv_at hl 2 rfl) ?_
      refine lv_ldc S.1 S.2.1 S.2.2.2.1 (S.2.2.2.2 _ mW460) dX3_show_13 ?_
      refine tpi (x' := nI 99999999) (by decide) ?_
      refine tpi (x' := iI 99999999) (rfl) ?_
      refine lv_icmp_le (tgt := 20) S.1 S.2.1 dX3_show_15 (by decide) (fun c15 => ?_) (fun c15 => ?_)
      · skip
        have c15 : z ≤ 99999999 := (iI_le (by omega) (by omega)).mp c15
        refine lv_aload_n S.1 S.2.1 dX3_show_20 rfl (lv_at hl 0 rfl) ?_
        refine gfX3_125 S hK hH m0 dX3_show_21 ?_
        refine lv_istore_n (lv' := [(3, .int (nI (σ.2.2.2.2.2))), (0, .ref (M)), (1, .int (nI j)), (2, .int (iI z))]) S.1 S.2.1 dX3_show_24 rfl hl (by decide) rfl (fun ls hl => ?_)
        refine lv_aload_n S.1 S.2.1 dX3_show_25 rfl (lv_at hl 1 rfl) ?_
        refine lv_iconst (v := nI 0) S.1 S.2.1 dX3_show_26 (by decide) ?_
        refine pfX3_125 S hK hH m0 dX3_show_27 (fun w2 H locs m0 fr hH => ?_)
        replace m1 := (fr (M + 1) (by omega)).trans m1
        replace m2 := (fr (M + 2) (by omega)).trans m2
        replace m3 := (fr (M + 3) (by omega)).trans m3
        replace m4 := (fr (M + 4) (by omega)).trans m4
        replace m5 := (fr (M + 5) (by omega)).trans m5
        replace m6 := (fr (M + 6) (by omega)).trans m6
        replace m7 := (fr (M + 7) (by omega)).trans m7
        replace m8 := (fr (M + 8) (by omega)).trans m8
        replace mz9 := (fr (M + 9) (by omega)).trans mz9
        replace m10 := (fr (M + 10) (by omega)).trans m10
        replace m11 := (fr (M + 11) (by omega)).trans m11
        replace m12 := (fr (M + 12) (by omega)).trans m12
        replace hF : ∀ b, b < M ∨ M + 13 ≤ b → w2 b = w b := fun b hb => (fr b (by omega)).trans (hF b hb)
        refine lv_iconst (v := nI 0) S.1 S.2.1 dX3_show_30 (by decide) ?_
        refine lv_istore (lv' := [(4, .int (nI 0)), (3, .int (nI (σ.2.2.2.2.2))), (0, .ref (M)), (1, .int (nI j)), (2, .int (iI z))]) S.1 S.2.1 dX3_show_31 hl (by decide) rfl (fun ls hl => ?_)
        refine wlp (P := fun k_ ls H' locs' => ∃ (t : Nat) (v : Wm), lv_has ls 7 [(0, .ref (M)), (1, .int (nI j)), (2, .int (iI z)), (3, .int (nI (σ.2.2.2.2.2))), (4, .int (nI t))] ∧ HS G B v (n) s H' locs' ∧ v (M) = some (eO 3 [.ref (M + 1), .ref (M + 2), .ref (M + 3), .ref (M + 4), .int (nI (σ.2.2.1)), .int (nI 0), .ref (M + 5), .ref (M + 6), .ref (M + 7), .ref (M + 8), .ref (M + 9), .int (cnt), .int (big), .ref (M + 10), .ref (M + 11), .ref (M + 12)]) ∧ v (M + 1) = some (eI G (62) (ma)) ∧ v (M + 2) = some (eJ G (3720) (gc)) ∧ v (M + 3) = some (eJ G (3720) (gh)) ∧ v (M + 4) = some (eJ G (3720) (gl)) ∧ v (M + 5) = some (eI G (20) (nu)) ∧ v (M + 6) = some (eI G (20) (f1)) ∧ v (M + 7) = some (eI G (20) (f2)) ∧ v (M + 8) = some (eI G (20) (f3)) ∧ v (M + 9) = some (eI G (20) (f4)) ∧ v (M + 10) = some (eJ G (3700) (fc)) ∧ v (M + 11) = some (eJ G (3700) (fh)) ∧ v (M + 12) = some (eJ G (3700) (fl)) ∧ (∀ b, b < M ∨ M + 13 ≤ b → v b = w b) ∧ (t ≤ σ.2.2.2.2.2) ∧ (∀ f, f < 4 * t → (σ.2.2.2.2.1 f).toInt < σ.2.2.1) ∧ k_ = σ.2.2.2.2.2 - t) ?_ (k0 := σ.2.2.2.2.2 - (0)) ⟨0, w2, lv_sub hl [2, 3, 4, 1, 0] rfl, hH, m0, m1, m2, m3, m4, m5, m6, m7, m8, mz9, m10, m11, m12, hF, by omega, fun f h => by omega, rfl⟩
        intro k33 ls H locs hP ih33
        obtain ⟨t, v, hl, hH, m0, m1, m2, m3, m4, m5, m6, m7, m8, mz9, m10, m11, m12, hF, ht, hall, hk33⟩ := hP
        refine lv_iload S.1 S.2.1 dX3_show_33 (lv_at hl 4 rfl) ?_
        refine lv_iload_n S.1 S.2.1 dX3_show_35 rfl (lv_at hl 3 rfl) ?_
        refine bn_ge (tgt := 77) S dX3_show_36 (by decide) (by omega) (fun c36 => ?_) (fun c36 => ?_)
        · skip
          have hth : thereF σ.2.2.1 σ.2.2.2.2.1 (4 * σ.2.2.2.2.2) = true := there_t (fun f h => hall f (by omega))
          replace hall : ∀ f, f < 4 * σ.2.2.2.2.2 → (σ.2.2.2.2.1 f).toInt < σ.2.2.1 := fun f h => hall f (by omega)
          refine lv_aload_n S.1 S.2.1 dX3_show_77 rfl (lv_at hl 0 rfl) ?_
          refine lv_bipush (v := nI 58) S.1 S.2.1 dX3_show_78 (by decide) ?_
          refine lv_iload_n S.1 S.2.1 dX3_show_80 rfl (lv_at hl 2 rfl) ?_
          refine lv_i2l (v := lI (z)) S.1 S.2.1 dX3_show_81 (iI_l (by omega)) ?_
          refine ck_i (run_V (As := [.int (nI 58), .long (lI (z))]) (rest := []) S hK hH (kX3_whole M (58) (z) Sl (nI (σ.2.2.1)) (nI 0) cnt big ma gc gh gl fc fh fl m0 m1 m2 m3 m4 m10 m11 m12 (by omega) hsl (by omega)) ceX3_whole mW353 m0 rfl rfl hl.1 rfl (Nat.le_of_ble_eq_true rfl) dX3_show_82 ⟨rfl, rfl, by decide, by decide⟩ ⟨show 0 + 0 ≤ 0 by omega, show 0 + 0 ≤ 0 by omega⟩) hH (fun r82 w3 n3 H locs hp hH => ?_)
          obtain ⟨hn1, hfr, ⟨cnt, big, fc, fh, fl, ma, gc, gh, gl, m0, m10, m11, m12, m1, m2, m3, m4, hq5⟩⟩ := hp
          rw [hn1] at hH
          replace hq5 : Hid _ := hq5
          replace m5 := (hfr (M + 5) (by omega)).trans m5
          replace m6 := (hfr (M + 6) (by omega)).trans m6
          replace m7 := (hfr (M + 7) (by omega)).trans m7
          replace m8 := (hfr (M + 8) (by omega)).trans m8
          replace mz9 := (hfr (M + 9) (by omega)).trans mz9
          replace hF : ∀ b, b < M ∨ M + 13 ≤ b → w3 b = w b := fun b hb => (hfr b (by omega)).trans (hF b hb)
          obtain ⟨e82, hsl⟩ := whole_in (show -99999999 ≤ z ∧ z ≤ 99999999 by omega) hq5
          rw [e82]
          obtain ⟨Sl, hSl, hS56, hS58⟩ := sl_58 hS0 (K := one 0 z)
          rw [← hSl] at hsl
          refine lv_if_eq (tgt := 100) S.1 S.2.1 dX3_show_85 (by decide) (fun c85 => ?_) (fun c85 => ?_)
          · skip
            exact absurd c85 (by decide)
          · skip
            refine lv_aload_n S.1 S.2.1 dX3_show_88 rfl (lv_at hl 0 rfl) ?_
            refine lv_bipush (v := nI 58) S.1 S.2.1 dX3_show_89 (by decide) ?_
            refine lv_bipush (v := nI 58) S.1 S.2.1 dX3_show_91 (by decide) ?_
            refine lv_iload_n S.1 S.2.1 dX3_show_93 rfl (lv_at hl 1 rfl) ?_
            refine ck_i (run_V (As := [.int (nI 58), .int (nI 58), .int (nI j)]) (rest := []) S hK hH (kX3_product M (58) (58) (j) Sl (nI (σ.2.2.1)) (nI 0) cnt big ma gc gh gl fc fh fl m0 m1 m2 m3 m4 m10 m11 m12 (by omega) (by omega) (by omega) hsl) ceX3_product mW408 m0 rfl rfl hl.1 rfl (Nat.le_of_ble_eq_true rfl) dX3_show_94 ⟨rfl, rfl, by decide, by decide⟩ ⟨show 0 + 0 ≤ 0 by omega, show 0 + 0 ≤ 0 by omega⟩) hH (fun r94 w4 n4 H locs hp hH => ?_)
            obtain ⟨hn1, hfr, ⟨cnt, big, fc, fh, fl, ma, gc, gh, gl, m0, m10, m11, m12, m1, m2, m3, m4, hq5⟩⟩ := hp
            rw [hn1] at hH
            replace hq5 : Hid _ := hq5
            replace m5 := (hfr (M + 5) (by omega)).trans m5
            replace m6 := (hfr (M + 6) (by omega)).trans m6
            replace m7 := (hfr (M + 7) (by omega)).trans m7
            replace m8 := (hfr (M + 8) (by omega)).trans m8
            replace mz9 := (hfr (M + 9) (by omega)).trans mz9
            replace hF : ∀ b, b < M ∨ M + 13 ≤ b → w4 b = w b := fun b hb => (hfr b (by omega)).trans (hF b hb)
            refine lv_if_ne (tgt := 103) S.1 S.2.1 dX3_show_97 (by decide) (fun c97 => ?_) (fun c97 => ?_)
            · skip
              rcases hq5 with ⟨_, W0, e0, hsl⟩ | ⟨e, _⟩
              rotate_left
              · exact absurd e c97
              rw [hS58, hS56 j (by omega), hS0 j (by omega), hrl j hj0] at e0
              obtain ⟨Sl, hSl, hS56, hS58⟩ := sl_58b hS56 (K := W0)
              rw [← hSl] at hsl
              refine lv_aload_n S.1 S.2.1 dX3_show_103 rfl (lv_at hl 0 rfl) ?_
              refine gfX3_9 S hK hH m0 dX3_show_104 ?_
              refine lv_bipush (v := nI 56) S.1 S.2.1 dX3_show_107 (by decide) ?_
              refine lv_iconst (v := nI 0) S.1 S.2.1 dX3_show_109 (by decide) ?_
              refine ast_i S hK hH m1 (by omega) (by omega) dX3_show_110 (fun w5 H locs m1 fr hH => ?_)
              replace m5 := (fr (M + 5) (by omega)).trans m5
              replace m6 := (fr (M + 6) (by omega)).trans m6
              replace m7 := (fr (M + 7) (by omega)).trans m7
              replace m8 := (fr (M + 8) (by omega)).trans m8
              replace mz9 := (fr (M + 9) (by omega)).trans mz9
              replace m0 := (fr (M) (by omega)).trans m0
              replace m2 := (fr (M + 2) (by omega)).trans m2
              replace m3 := (fr (M + 3) (by omega)).trans m3
              replace m4 := (fr (M + 4) (by omega)).trans m4
              replace m10 := (fr (M + 10) (by omega)).trans m10
              replace m11 := (fr (M + 11) (by omega)).trans m11
              replace m12 := (fr (M + 12) (by omega)).trans m12
              replace hF : ∀ b, b < M ∨ M + 13 ≤ b → w5 b = w b := fun b hb => (fr b (by omega)).trans (hF b hb)
              replace hsl := slots_0 (z := 56) hsl (by omega)
              refine lv_iconst (v := nI 0) S.1 S.2.1 dX3_show_111 (by decide) ?_
              refine lv_istore (lv' := [(4, .int (nI 0)), (0, .ref (M)), (1, .int (nI j)), (2, .int (iI z)), (3, .int (nI (σ.2.2.2.2.2)))]) S.1 S.2.1 dX3_show_112 hl (by decide) rfl (fun ls hl => ?_)
              refine wlp (P := fun k_ ls H' locs' => ∃ (t : Nat) (acc : PL) (Sl : Nat → PL) (cnt big : Int32) (ma : Nat → Int32) (gc gh gl fc fh fl : Nat → Int64) (v : Wm), lv_has ls 7 [(0, .ref (M)), (1, .int (nI j)), (2, .int (iI z)), (3, .int (nI (σ.2.2.2.2.2))), (4, .int (nI t))] ∧ HS G B v (n) s H' locs' ∧ v (M) = some (eO 3 [.ref (M + 1), .ref (M + 2), .ref (M + 3), .ref (M + 4), .int (nI (σ.2.2.1)), .int (nI 0), .ref (M + 5), .ref (M + 6), .ref (M + 7), .ref (M + 8), .ref (M + 9), .int (cnt), .int (big), .ref (M + 10), .ref (M + 11), .ref (M + 12)]) ∧ v (M + 1) = some (eI G (62) (ma)) ∧ v (M + 2) = some (eJ G (3720) (gc)) ∧ v (M + 3) = some (eJ G (3720) (gh)) ∧ v (M + 4) = some (eJ G (3720) (gl)) ∧ v (M + 5) = some (eI G (20) (nu)) ∧ v (M + 6) = some (eI G (20) (f1)) ∧ v (M + 7) = some (eI G (20) (f2)) ∧ v (M + 8) = some (eI G (20) (f3)) ∧ v (M + 9) = some (eI G (20) (f4)) ∧ v (M + 10) = some (eJ G (3700) (fc)) ∧ v (M + 11) = some (eJ G (3700) (fh)) ∧ v (M + 12) = some (eJ G (3700) (fl)) ∧ (∀ b, b < M ∨ M + 13 ≤ b → v b = w b) ∧ (t ≤ σ.2.2.2.2.2) ∧ (SlotsOK ma gc gh gl Sl) ∧ (∀ i, i < 56 → Sl i = S0 i) ∧ (Sl 56 = acc) ∧ (Sl 58 = W0) ∧ (psum σ.2.1 σ.2.2.1 σ.2.2.2.1 σ.2.2.2.2.1 0 σ.2.2.2.2.2 [] = psum σ.2.1 σ.2.2.1 σ.2.2.2.1 σ.2.2.2.2.1 t (σ.2.2.2.2.2 - t) acc) ∧ k_ = σ.2.2.2.2.2 - t) ?_ (k0 := σ.2.2.2.2.2 - (0)) ⟨0, [], va_up Sl 56 [], _, _, _, _, _, _, _, _, _, w5, lv_sub hl [1, 2, 3, 4, 0] rfl, hH, m0, m1, m2, m3, m4, m5, m6, m7, m8, mz9, m10, m11, m12, hF, by omega, hsl, fun i h => (va_up_ne _ _ (by omega)).trans (hS56 i h), va_up_self _ _ _, (va_up_ne _ _ (by omega)).trans hS58, rfl, rfl⟩
              intro k114 ls H locs hP ih114
              obtain ⟨t, acc, Sl, cnt, big, ma, gc, gh, gl, fc, fh, fl, v, hl, hH, m0, m1, m2, m3, m4, m5, m6, m7, m8, mz9, m10, m11, m12, hF, ht, hsl, hS56, hacc, h58, hw, hk114⟩ := hP
              refine lv_iload S.1 S.2.1 dX3_show_114 (lv_at hl 4 rfl) ?_
              refine lv_iload_n S.1 S.2.1 dX3_show_116 rfl (lv_at hl 3 rfl) ?_
              refine bn_ge (tgt := 216) S dX3_show_117 (by decide) (by omega) (fun c117 => ?_) (fun c117 => ?_)
              · skip
                refine lv_aload_n S.1 S.2.1 dX3_show_216 rfl (lv_at hl 0 rfl) ?_
                refine lv_bipush (v := nI 56) S.1 S.2.1 dX3_show_217 (by decide) ?_
                refine lv_bipush (v := nI 58) S.1 S.2.1 dX3_show_219 (by decide) ?_
                refine ck_ip (run_V (As := [.int (nI 56), .int (nI 58)]) (rest := []) S hK hH (kX3_isSame M 56 58 Sl (nI (σ.2.2.1)) (nI 0) cnt big ma gc gh gl m0 m1 m2 m3 m4 (by omega) (by omega) hsl) ceX3_isSame mW440 m0 rfl rfl hl.1 rfl (Nat.le_of_ble_eq_true rfl) dX3_show_221 ⟨rfl, rfl, by decide, by decide⟩ ⟨show 0 + 0 ≤ 0 by omega, show 0 + 0 ≤ 0 by omega⟩) hH (fun r221 H locs hp hH => ?_)
                have hq6 : Hid _ := hp
                clear hp
                refine lv_if_eq (tgt := 231) S.1 S.2.1 dX3_show_224 (by decide) (fun c224 => ?_) (fun c224 => ?_)
                · skip
                  rcases hq6 with ⟨e, _⟩ | ⟨_, he⟩
                  · rw [e] at c224; exact absurd c224 (by decide)
                  rw [hacc, h58] at he
                  refine lv_iconst (v := nI 0) S.1 S.2.1 dX3_show_231 (by decide) ?_
                  exact rt_i S hr hlk hH dX3_show_232 (⟨rfl, hF, by rw [sShow_ok hj0 ⟨hz1, hz2⟩ (by omega)]; exact ((show_3 hth e0 (hw.trans (psum_end c117))).trans (if_neg he)).symm, by rw [sShow_ok hj0 ⟨hz1, hz2⟩ (by omega)]; exact ⟨_, _, _, _, _, _, _, _, _, _, _, _, _, _, _, m0, m1, m2, m3, m4, m5, m6, m7, m8, mz9, m10, m11, m12, hsl, mnone_I (sl_I hmi (fun i h => (hS56 i h).trans (hS0 i h)))⟩⟩)
                · skip
                  rcases hq6 with ⟨_, he⟩ | ⟨e, _⟩
                  rotate_left
                  · exact absurd e c224
                  rw [hacc, h58] at he
                  refine lv_iconst (v := nI 1) S.1 S.2.1 dX3_show_227 (by decide) ?_
                  refine lv_goto (tgt := 232) S.1 S.2.1 dX3_show_228 (by decide) ?_
                  exact rt_i S hr hlk hH dX3_show_232 (⟨rfl, hF, by rw [sShow_ok hj0 ⟨hz1, hz2⟩ (by omega)]; exact ((show_3 hth e0 (hw.trans (psum_end c117))).trans (if_pos he)).symm, by rw [sShow_ok hj0 ⟨hz1, hz2⟩ (by omega)]; exact ⟨_, _, _, _, _, _, _, _, _, _, _, _, _, _, _, m0, m1, m2, m3, m4, m5, m6, m7, m8, mz9, m10, m11, m12, hsl, mnone_I (sl_I hmi (fun i h => (hS56 i h).trans (hS0 i h)))⟩⟩)
              · skip
                have hpt9 := hpt t c117
                refine lv_aload_n S.1 S.2.1 dX3_show_120 rfl (lv_at hl 0 rfl) ?_
                refine lv_bipush (v := nI 57) S.1 S.2.1 dX3_show_121 (by decide) ?_
                refine lv_aload_n S.1 S.2.1 dX3_show_123 rfl (lv_at hl 0 rfl) ?_
                refine gfX3_23 S hK hH m0 dX3_show_124 ?_
                refine lv_iload S.1 S.2.1 dX3_show_127 (lv_at hl 4 rfl) ?_
                refine ald_i S hK hH m5 (by omega) (by omega) dX3_show_129 ?_
                refine tpi (x' := nI (σ.2.2.2.1 t)) (hpt9.1) ?_
                refine lv_i2l (v := lI (σ.2.2.2.1 t)) S.1 S.2.1 dX3_show_130 (nI_lI (by omega)) ?_
                refine ck_i (run_V (As := [.int (nI 57), .long (lI (σ.2.2.2.1 t))]) (rest := []) S hK hH (kX3_whole M (57) (((σ.2.2.2.1 t : Nat) : Int)) Sl (nI (σ.2.2.1)) (nI 0) cnt big ma gc gh gl fc fh fl m0 m1 m2 m3 m4 m10 m11 m12 (by omega) hsl (by omega)) ceX3_whole mW353 m0 rfl rfl hl.1 rfl (Nat.le_of_ble_eq_true rfl) dX3_show_131 ⟨rfl, rfl, by decide, by decide⟩ ⟨show 0 + 0 ≤ 0 by omega, show 0 + 0 ≤ 0 by omega⟩) hH (fun r131 w7 n7 H locs hp hH => ?_)
                obtain ⟨hn1, hfr, ⟨cnt, big, fc, fh, fl, ma, gc, gh, gl, m0, m10, m11, m12, m1, m2, m3, m4, hq5⟩⟩ := hp
                rw [hn1] at hH
                replace hq5 : Hid _ := hq5
                replace m5 := (hfr (M + 5) (by omega)).trans m5
                replace m6 := (hfr (M + 6) (by omega)).trans m6
                replace m7 := (hfr (M + 7) (by omega)).trans m7
                replace m8 := (hfr (M + 8) (by omega)).trans m8
                replace mz9 := (hfr (M + 9) (by omega)).trans mz9
                replace hF : ∀ b, b < M ∨ M + 13 ≤ b → w7 b = w b := fun b hb => (hfr b (by omega)).trans (hF b hb)
                obtain ⟨e131, hsl⟩ := whole_in (v := ((σ.2.2.2.1 t : Nat) : Int)) (by omega) hq5
                rw [e131]
                refine lv_istore (lv' := [(5, .int (nI 1)), (0, .ref (M)), (1, .int (nI j)), (2, .int (iI z)), (3, .int (nI (σ.2.2.2.2.2))), (4, .int (nI t))]) S.1 S.2.1 dX3_show_134 hl (by decide) rfl (fun ls hl => ?_)
                refine lv_iconst (v := nI 0) S.1 S.2.1 dX3_show_136 (by decide) ?_
                refine lv_istore (lv' := [(6, .int (nI 0)), (5, .int (nI 1)), (0, .ref (M)), (1, .int (nI j)), (2, .int (iI z)), (3, .int (nI (σ.2.2.2.2.2))), (4, .int (nI t))]) S.1 S.2.1 dX3_show_137 hl (by decide) rfl (fun ls hl => ?_)
                refine wlp (P := fun k_ ls H' locs' => ∃ (i1 : Nat) (g : Int32) (Sl : Nat → PL) (cnt big : Int32) (ma : Nat → Int32) (gc gh gl fc fh fl : Nat → Int64) (v : Wm), lv_has ls 7 [(0, .ref (M)), (1, .int (nI j)), (2, .int (iI z)), (3, .int (nI (σ.2.2.2.2.2))), (4, .int (nI t)), (5, .int (g)), (6, .int (nI i1))] ∧ HS G B v (n) s H' locs' ∧ v (M) = some (eO 3 [.ref (M + 1), .ref (M + 2), .ref (M + 3), .ref (M + 4), .int (nI (σ.2.2.1)), .int (nI 0), .ref (M + 5), .ref (M + 6), .ref (M + 7), .ref (M + 8), .ref (M + 9), .int (cnt), .int (big), .ref (M + 10), .ref (M + 11), .ref (M + 12)]) ∧ v (M + 1) = some (eI G (62) (ma)) ∧ v (M + 2) = some (eJ G (3720) (gc)) ∧ v (M + 3) = some (eJ G (3720) (gh)) ∧ v (M + 4) = some (eJ G (3720) (gl)) ∧ v (M + 5) = some (eI G (20) (nu)) ∧ v (M + 6) = some (eI G (20) (f1)) ∧ v (M + 7) = some (eI G (20) (f2)) ∧ v (M + 8) = some (eI G (20) (f3)) ∧ v (M + 9) = some (eI G (20) (f4)) ∧ v (M + 10) = some (eJ G (3700) (fc)) ∧ v (M + 11) = some (eJ G (3700) (fh)) ∧ v (M + 12) = some (eJ G (3700) (fl)) ∧ (∀ b, b < M ∨ M + 13 ≤ b → v b = w b) ∧ (i1 ≤ 4) ∧ (SlotsOK ma gc gh gl Sl) ∧ (∀ i, i < 56 → Sl i = S0 i) ∧ (Sl 56 = acc) ∧ (Sl 58 = W0) ∧ (GP Sl g (wpi σ.2.1 σ.2.2.1 σ.2.2.2.2.1 (4 * t) 4 (one 0 ((σ.2.2.2.1 t : Nat) : Int))) (wpi σ.2.1 σ.2.2.1 σ.2.2.2.2.1 (4 * t + i1) (4 * t + 4 - (4 * t + i1)))) ∧ k_ = 4 - i1) ?_ (k0 := 4 - (0)) ⟨0, nI 1, va_up Sl 57 (one 0 ((σ.2.2.2.1 t : Nat) : Int)), _, _, _, _, _, _, _, _, _, w7, lv_sub hl [2, 3, 4, 5, 6, 1, 0] rfl, hH, m0, m1, m2, m3, m4, m5, m6, m7, m8, mz9, m10, m11, m12, hF, by omega, hsl, fun i h => (va_up_ne _ _ (by omega)).trans (hS56 i h), (va_up_ne _ _ (by omega)).trans hacc, (va_up_ne _ _ (by omega)).trans h58, Or.inl ⟨rfl, _, va_up_self _ _ _, by rw [show 4 * t + 4 - (4 * t + 0) = 4 by omega]; rfl⟩, rfl⟩
                intro k139 ls H locs hP ih139
                obtain ⟨i1, g, Sl, cnt, big, ma, gc, gh, gl, fc, fh, fl, v, hl, hH, m0, m1, m2, m3, m4, m5, m6, m7, m8, mz9, m10, m11, m12, hF, hi1, hsl, hS56, hacc, h58, hg, hk139⟩ := hP
                refine lv_iload S.1 S.2.1 dX3_show_139 (lv_at hl 6 rfl) ?_
                refine lv_iconst (v := nI 4) S.1 S.2.1 dX3_show_141 (by decide) ?_
                refine bn_ge (tgt := 188) S dX3_show_142 (by decide) (by omega) (fun c142 => ?_) (fun c142 => ?_)
                · skip
                  refine lv_iload S.1 S.2.1 dX3_show_188 (lv_at hl 5 rfl) ?_
                  refine lv_if_eq (tgt := 207) S.1 S.2.1 dX3_show_190 (by decide) (fun c190 => ?_) (fun c190 => ?_)
                  · skip
                    have hn := GP_0 hg c190
                    refine lv_bipush (v := (-2)) S.1 S.2.1 dX3_show_207 (by decide) ?_
                    exact rt_i S hr hlk hH dX3_show_209 (⟨rfl, hF, by rw [sShow_ok hj0 ⟨hz1, hz2⟩ (by omega)]; exact (show_2 hth e0 (hw.trans (psum_none1 c117 hn))).symm, by rw [sShow_ok hj0 ⟨hz1, hz2⟩ (by omega)]; exact ⟨_, _, _, _, _, _, _, _, _, _, _, _, _, _, _, m0, m1, m2, m3, m4, m5, m6, m7, m8, mz9, m10, m11, m12, hsl, mnone_I (sl_I hmi (fun i h => (hS56 i h).trans (hS0 i h)))⟩⟩)
                  · skip
                    obtain ⟨A, hA57, hwA⟩ := GP_1 hg c190
                    have hwA : wpi σ.2.1 σ.2.2.1 σ.2.2.2.2.1 (4 * t) 4 (one 0 ((σ.2.2.2.1 t : Nat) : Int)) = some A := by
                      rw [hwA, show i1 = 4 from GW_4 c142 hi1, show 4 * t + 4 - (4 * t + 4) = 0 by omega]; rfl
                    refine lv_aload_n S.1 S.2.1 dX3_show_193 rfl (lv_at hl 0 rfl) ?_
                    refine lv_bipush (v := nI 56) S.1 S.2.1 dX3_show_194 (by decide) ?_
                    refine lv_bipush (v := nI 56) S.1 S.2.1 dX3_show_196 (by decide) ?_
                    refine lv_bipush (v := nI 57) S.1 S.2.1 dX3_show_198 (by decide) ?_
                    refine lv_lconst (v := lI 1) S.1 S.2.1 dX3_show_200 (by decide) ?_
                    refine ck_i (run_V (As := [.int (nI 56), .int (nI 56), .int (nI 57), .long (lI 1)]) (rest := []) S hK hH (kX3_sum M (56) (56) (57) (1) Sl (nI (σ.2.2.1)) (nI 0) cnt big ma gc gh gl fc fh fl m0 m1 m2 m3 m4 m10 m11 m12 (by omega) (by omega) (by omega) hsl (Or.inl rfl)) ceX3_sum mW391 m0 rfl rfl hl.1 rfl (Nat.le_of_ble_eq_true rfl) dX3_show_201 ⟨rfl, rfl, by decide, by decide⟩ ⟨show 0 + 0 ≤ 0 by omega, show 0 + 0 ≤ 0 by omega⟩) hH (fun r201 w8 n8 H locs hp hH => ?_)
                    obtain ⟨hn1, hfr, ⟨cnt, big, fc, fh, fl, ma, gc, gh, gl, m0, m10, m11, m12, m1, m2, m3, m4, hq5⟩⟩ := hp
                    rw [hn1] at hH
                    replace hq5 : Hid _ := hq5
                    replace m5 := (hfr (M + 5) (by omega)).trans m5
                    replace m6 := (hfr (M + 6) (by omega)).trans m6
                    replace m7 := (hfr (M + 7) (by omega)).trans m7
                    replace m8 := (hfr (M + 8) (by omega)).trans m8
                    replace mz9 := (hfr (M + 9) (by omega)).trans mz9
                    replace hF : ∀ b, b < M ∨ M + 13 ≤ b → w8 b = w b := fun b hb => (hfr b (by omega)).trans (hF b hb)
                    refine lv_if_ne (tgt := 210) S.1 S.2.1 dX3_show_204 (by decide) (fun c204 => ?_) (fun c204 => ?_)
                    · skip
                      rcases hq5 with ⟨_, K, e1, hsl⟩ | ⟨e, _⟩
                      rotate_left
                      · exact absurd e c204
                      rw [hacc, hA57] at e1
                      refine lv_iinc (v := nI (t + 1)) (lv' := [(4, .int (nI (t + 1))), (0, .ref (M)), (1, .int (nI j)), (2, .int (iI z)), (3, .int (nI (σ.2.2.2.2.2))), (5, .int (g)), (6, .int (nI i1))]) S.1 S.2.1 dX3_show_210 hl (k := 4) rfl (nI_inc _ 1) (by decide) rfl (fun ls hl => ?_)
                      refine lv_goto (tgt := 114) S.1 S.2.1 dX3_show_213 (by decide) ?_
                      exact ih114 _ _ _ _ (by omega) ⟨t + 1, K, va_up Sl 56 K, _, _, _, _, _, _, _, _, _, w8, lv_sub hl [1, 2, 3, 4, 0] rfl, hH, m0, m1, m2, m3, m4, m5, m6, m7, m8, mz9, m10, m11, m12, hF, by omega, hsl, fun i h => (va_up_ne _ _ (by omega)).trans (hS56 i h), va_up_self _ _ _, (va_up_ne _ _ (by omega)).trans h58, hw.trans (psum_some c117 hwA e1), rfl⟩
                    · skip
                      rcases hq5 with ⟨e, _⟩ | ⟨_, e1, hsl⟩
                      · rw [e] at c204; exact absurd c204 (by decide)
                      rw [hacc, hA57] at e1
                      refine lv_bipush (v := (-2)) S.1 S.2.1 dX3_show_207 (by decide) ?_
                      exact rt_i S hr hlk hH dX3_show_209 (⟨rfl, hF, by rw [sShow_ok hj0 ⟨hz1, hz2⟩ (by omega)]; exact (show_2 hth e0 (hw.trans (psum_none2 c117 hwA e1))).symm, by rw [sShow_ok hj0 ⟨hz1, hz2⟩ (by omega)]; exact ⟨_, _, _, _, _, _, _, _, _, _, _, _, _, _, _, m0, m1, m2, m3, m4, m5, m6, m7, m8, mz9, m10, m11, m12, hsl, mnone_I (sl_I hmi (fun i h => (hS56 i h).trans (hS0 i h)))⟩⟩)
                · skip
                  refine lv_iload S.1 S.2.1 dX3_show_145 (lv_at hl 5 rfl) ?_
                  refine lv_if_eq (tgt := 188) S.1 S.2.1 dX3_show_147 (by decide) (fun c147 => ?_) (fun c147 => ?_)
                  · skip
                    refine lv_iload S.1 S.2.1 dX3_show_188 (lv_at hl 5 rfl) ?_
                    refine lv_if_eq (tgt := 207) S.1 S.2.1 dX3_show_190 (by decide) (fun c190 => ?_) (fun c190 => ?_)
                    · skip
                      have hn := GP_0 hg c190
                      refine lv_bipush (v := (-2)) S.1 S.2.1 dX3_show_207 (by decide) ?_
                      exact rt_i S hr hlk hH dX3_show_209 (⟨rfl, hF, by rw [sShow_ok hj0 ⟨hz1, hz2⟩ (by omega)]; exact (show_2 hth e0 (hw.trans (psum_none1 c117 hn))).symm, by rw [sShow_ok hj0 ⟨hz1, hz2⟩ (by omega)]; exact ⟨_, _, _, _, _, _, _, _, _, _, _, _, _, _, _, m0, m1, m2, m3, m4, m5, m6, m7, m8, mz9, m10, m11, m12, hsl, mnone_I (sl_I hmi (fun i h => (hS56 i h).trans (hS0 i h)))⟩⟩)
                    · skip
                      exact absurd c147 c190
                  · skip
                    refine lv_aload_n S.1 S.2.1 dX3_show_150 rfl (lv_at hl 0 rfl) ?_
                    refine lv_iload S.1 S.2.1 dX3_show_151 (lv_at hl 4 rfl) ?_
                    refine lv_iload S.1 S.2.1 dX3_show_153 (lv_at hl 6 rfl) ?_
                    refine ck_ip (run_V (As := [.int (nI t), .int (nI i1)]) (rest := []) S hK hH (kX3_hypOf M t i1 (nI (σ.2.2.1)) (nI 0) cnt big f1 f2 f3 f4 m0 m6 m7 m8 mz9 (by omega) c142) ceX3_hypOf mW465 m0 rfl rfl hl.1 rfl (Nat.le_of_ble_eq_true rfl) dX3_show_155 ⟨rfl, rfl, by decide, by decide⟩ ⟨show 0 + 0 ≤ 0 by omega, show 0 + 0 ≤ 0 by omega⟩) hH (fun r155 H locs hp hH => ?_)
                    have hq7 : Hid _ := hp
                    clear hp
                    rw [hO_pf hmi c117 c142] at hq7
                    obtain rfl := hq7
                    refine lv_if_lt (tgt := 182) S.1 S.2.1 dX3_show_158 (by decide) (fun c158 => ?_) (fun c158 => ?_)
                    · skip
                      have hsk : ¬ (0 ≤ (σ.2.2.2.2.1 (4 * t + i1)).toInt ∧ (σ.2.2.2.2.1 (4 * t + i1)).toInt < σ.2.2.1) := fun e => absurd c158 (nneg e.1)
                      refine lv_iinc (v := nI (i1 + 1)) (lv' := [(6, .int (nI (i1 + 1))), (0, .ref (M)), (1, .int (nI j)), (2, .int (iI z)), (3, .int (nI (σ.2.2.2.2.2))), (4, .int (nI t)), (5, .int (g))]) S.1 S.2.1 dX3_show_182 hl (k := 6) rfl (nI_inc _ 1) (by decide) rfl (fun ls hl => ?_)
                      refine lv_goto (tgt := 139) S.1 S.2.1 dX3_show_185 (by decide) ?_
                      exact ih139 _ _ _ _ (by omega) ⟨i1 + 1, g, Sl, _, _, _, _, _, _, _, _, _, v, lv_sub hl [1, 2, 3, 4, 5, 6, 0] rfl, hH, m0, m1, m2, m3, m4, m5, m6, m7, m8, mz9, m10, m11, m12, hF, by omega, hsl, hS56, hacc, h58, GP_cg hg (fun A => wpi_skip (by omega) hsk), rfl⟩
                    · skip
                      obtain ⟨hh, hh1, hh2⟩ := hf_in c158 (hall (4 * t + i1) (by omega))
                      refine lv_aload_n S.1 S.2.1 dX3_show_161 rfl (lv_at hl 0 rfl) ?_
                      refine lv_bipush (v := nI 57) S.1 S.2.1 dX3_show_162 (by decide) ?_
                      refine lv_bipush (v := nI 57) S.1 S.2.1 dX3_show_164 (by decide) ?_
                      refine lv_bipush (v := nI 16) S.1 S.2.1 dX3_show_166 (by decide) ?_
                      refine lv_aload_n S.1 S.2.1 dX3_show_168 rfl (lv_at hl 0 rfl) ?_
                      refine lv_iload S.1 S.2.1 dX3_show_169 (lv_at hl 4 rfl) ?_
                      refine lv_iload S.1 S.2.1 dX3_show_171 (lv_at hl 6 rfl) ?_
                      refine ck_ip (run_V (As := [.int (nI t), .int (nI i1)]) (rest := [.int (nI 16), .int (nI 57), .int (nI 57), .ref (M)]) S hK hH (kX3_hypOf M t i1 (nI (σ.2.2.1)) (nI 0) cnt big f1 f2 f3 f4 m0 m6 m7 m8 mz9 (by omega) c142) ceX3_hypOf mW465 m0 rfl rfl hl.1 rfl (Nat.le_of_ble_eq_true rfl) dX3_show_173 ⟨rfl, rfl, by decide, by decide⟩ ⟨show 0 + 0 ≤ 0 by omega, show 0 + 0 ≤ 0 by omega⟩) hH (fun r173 H locs hp hH => ?_)
                      have hq7 : Hid _ := hp
                      clear hp
                      rw [hO_pf hmi c117 c142] at hq7
                      obtain rfl := hq7
                      rw [hh2]
                      refine lv_iadd S.1 S.2.1 dX3_show_176 ?_
                      refine tpi (x' := nI (16 + hh)) (nI_add _ _) ?_
                      obtain ⟨A, hA57, hwA⟩ := GP_1 hg c147
                      refine ck_i (run_V (As := [.int (nI 57), .int (nI 57), .int (nI (16 + hh))]) (rest := []) S hK hH (kX3_product M (57) (57) (16 + hh) Sl (nI (σ.2.2.1)) (nI 0) cnt big ma gc gh gl fc fh fl m0 m1 m2 m3 m4 m10 m11 m12 (by omega) (by omega) (by omega) hsl) ceX3_product mW408 m0 rfl rfl hl.1 rfl (Nat.le_of_ble_eq_true rfl) dX3_show_177 ⟨rfl, rfl, by decide, by decide⟩ ⟨show 0 + 0 ≤ 0 by omega, show 0 + 0 ≤ 0 by omega⟩) hH (fun r177 w11 n11 H locs hp hH => ?_)
                      obtain ⟨hn1, hfr, ⟨cnt, big, fc, fh, fl, ma, gc, gh, gl, m0, m10, m11, m12, m1, m2, m3, m4, hq5⟩⟩ := hp
                      rw [hn1] at hH
                      replace hq5 : Hid _ := hq5
                      replace m5 := (hfr (M + 5) (by omega)).trans m5
                      replace m6 := (hfr (M + 6) (by omega)).trans m6
                      replace m7 := (hfr (M + 7) (by omega)).trans m7
                      replace m8 := (hfr (M + 8) (by omega)).trans m8
                      replace mz9 := (hfr (M + 9) (by omega)).trans mz9
                      replace hF : ∀ b, b < M ∨ M + 13 ≤ b → w11 b = w b := fun b hb => (hfr b (by omega)).trans (hF b hb)
                      have hg9 := GW_s c142 hh1 (by omega) hh2 hA57 (by rw [← hhl hh hh1, ← hS0 (16 + hh) (by omega)]; exact hS56 (16 + hh) (by omega)) hwA hq5
                      obtain ⟨Sl, hsl, hS56, hacc, h58, hg⟩ := GW_k hg9 hS56 hacc h58
                      refine lv_istore (lv' := [(5, .int (r177)), (0, .ref (M)), (1, .int (nI j)), (2, .int (iI z)), (3, .int (nI (σ.2.2.2.2.2))), (4, .int (nI t)), (6, .int (nI i1))]) S.1 S.2.1 dX3_show_180 hl (by decide) rfl (fun ls hl => ?_)
                      refine lv_iinc (v := nI (i1 + 1)) (lv' := [(6, .int (nI (i1 + 1))), (5, .int (r177)), (0, .ref (M)), (1, .int (nI j)), (2, .int (iI z)), (3, .int (nI (σ.2.2.2.2.2))), (4, .int (nI t))]) S.1 S.2.1 dX3_show_182 hl (k := 6) rfl (nI_inc _ 1) (by decide) rfl (fun ls hl => ?_)
                      refine lv_goto (tgt := 139) S.1 S.2.1 dX3_show_185 (by decide) ?_
                      exact ih139 _ _ _ _ (by omega) ⟨i1 + 1, _, Sl, _, _, _, _, _, _, _, _, _, w11, lv_sub hl [2, 3, 4, 5, 6, 1, 0] rfl, hH, m0, m1, m2, m3, m4, m5, m6, m7, m8, mz9, m10, m11, m12, hF, by omega, hsl, hS56, hacc, h58, hg, rfl⟩
            · skip
              rcases hq5 with ⟨e, _⟩ | ⟨_, e0, hsl⟩
              · rw [e] at c97; exact absurd c97 (by decide)
              rw [hS58, hS56 j (by omega), hS0 j (by omega), hrl j hj0] at e0
              refine lv_bipush (v := (-2)) S.1 S.2.1 dX3_show_100 (by decide) ?_
              exact rt_i S hr hlk hH dX3_show_102 (⟨rfl, hF, by rw [sShow_ok hj0 ⟨hz1, hz2⟩ (by omega)]; exact (show_1 hth e0).symm, by rw [sShow_ok hj0 ⟨hz1, hz2⟩ (by omega)]; exact ⟨_, _, _, _, _, _, _, _, _, _, _, _, _, _, _, m0, m1, m2, m3, m4, m5, m6, m7, m8, mz9, m10, m11, m12, hsl, mnone_I (sl_I hmi (fun i h => (hS56 i h).trans (hS0 i h)))⟩⟩)
        · skip
          refine lv_iconst (v := nI 0) S.1 S.2.1 dX3_show_39 (by decide) ?_
          refine lv_istore (lv' := [(5, .int (nI 0)), (0, .ref (M)), (1, .int (nI j)), (2, .int (iI z)), (3, .int (nI (σ.2.2.2.2.2))), (4, .int (nI t))]) S.1 S.2.1 dX3_show_40 hl (by decide) rfl (fun ls hl => ?_)
          refine wlp (P := fun k_ ls H' locs' => ∃ (i : Nat) (v : Wm), lv_has ls 7 [(0, .ref (M)), (1, .int (nI j)), (2, .int (iI z)), (3, .int (nI (σ.2.2.2.2.2))), (4, .int (nI t)), (5, .int (nI i))] ∧ HS G B v (n) s H' locs' ∧ v (M) = some (eO 3 [.ref (M + 1), .ref (M + 2), .ref (M + 3), .ref (M + 4), .int (nI (σ.2.2.1)), .int (nI 0), .ref (M + 5), .ref (M + 6), .ref (M + 7), .ref (M + 8), .ref (M + 9), .int (cnt), .int (big), .ref (M + 10), .ref (M + 11), .ref (M + 12)]) ∧ v (M + 1) = some (eI G (62) (ma)) ∧ v (M + 2) = some (eJ G (3720) (gc)) ∧ v (M + 3) = some (eJ G (3720) (gh)) ∧ v (M + 4) = some (eJ G (3720) (gl)) ∧ v (M + 5) = some (eI G (20) (nu)) ∧ v (M + 6) = some (eI G (20) (f1)) ∧ v (M + 7) = some (eI G (20) (f2)) ∧ v (M + 8) = some (eI G (20) (f3)) ∧ v (M + 9) = some (eI G (20) (f4)) ∧ v (M + 10) = some (eJ G (3700) (fc)) ∧ v (M + 11) = some (eJ G (3700) (fh)) ∧ v (M + 12) = some (eJ G (3700) (fl)) ∧ (∀ b, b < M ∨ M + 13 ≤ b → v b = w b) ∧ (i ≤ 4) ∧ (∀ f, f < 4 * t + i → (σ.2.2.2.2.1 f).toInt < σ.2.2.1) ∧ k_ = 4 - i) ?_ (k0 := 4 - (0)) ⟨0, v, lv_sub hl [1, 2, 3, 4, 5, 0] rfl, hH, m0, m1, m2, m3, m4, m5, m6, m7, m8, mz9, m10, m11, m12, hF, by omega, fun f h => hall f (by omega), rfl⟩
          intro k42 ls H locs hP ih42
          obtain ⟨i, v, hl, hH, m0, m1, m2, m3, m4, m5, m6, m7, m8, mz9, m10, m11, m12, hF, hi, hall, hk42⟩ := hP
          refine lv_iload S.1 S.2.1 dX3_show_42 (lv_at hl 5 rfl) ?_
          refine lv_iconst (v := nI 4) S.1 S.2.1 dX3_show_44 (by decide) ?_
          refine bn_ge (tgt := 71) S dX3_show_45 (by decide) (by omega) (fun c45 => ?_) (fun c45 => ?_)
          · skip
            refine lv_iinc (v := nI (t + 1)) (lv' := [(4, .int (nI (t + 1))), (0, .ref (M)), (1, .int (nI j)), (2, .int (iI z)), (3, .int (nI (σ.2.2.2.2.2))), (5, .int (nI i))]) S.1 S.2.1 dX3_show_71 hl (k := 4) rfl (nI_inc _ 1) (by decide) rfl (fun ls hl => ?_)
            refine lv_goto (tgt := 33) S.1 S.2.1 dX3_show_74 (by decide) ?_
            exact ih33 _ _ _ _ (by omega) ⟨t + 1, v, lv_sub hl [1, 2, 3, 4, 0] rfl, hH, m0, m1, m2, m3, m4, m5, m6, m7, m8, mz9, m10, m11, m12, hF, by omega, fun f h => hall f (by omega), rfl⟩
          · skip
            refine lv_aload_n S.1 S.2.1 dX3_show_48 rfl (lv_at hl 0 rfl) ?_
            refine lv_iload S.1 S.2.1 dX3_show_49 (lv_at hl 4 rfl) ?_
            refine lv_iload S.1 S.2.1 dX3_show_51 (lv_at hl 5 rfl) ?_
            refine ck_ip (run_V (As := [.int (nI t), .int (nI i)]) (rest := []) S hK hH (kX3_hypOf M t i (nI (σ.2.2.1)) (nI 0) cnt big f1 f2 f3 f4 m0 m6 m7 m8 mz9 (by omega) c45) ceX3_hypOf mW465 m0 rfl rfl hl.1 rfl (Nat.le_of_ble_eq_true rfl) dX3_show_53 ⟨rfl, rfl, by decide, by decide⟩ ⟨show 0 + 0 ≤ 0 by omega, show 0 + 0 ≤ 0 by omega⟩) hH (fun r53 H locs hp hH => ?_)
            have hq7 : Hid _ := hp
            clear hp
            rw [hO_pf hmi c36 c45] at hq7
            obtain rfl := hq7
            refine lv_aload_n S.1 S.2.1 dX3_show_56 rfl (lv_at hl 0 rfl) ?_
            refine gfX3_121 S hK hH m0 dX3_show_57 ?_
            refine lv_icmp_lt (tgt := 65) S.1 S.2.1 dX3_show_60 (by decide) (fun c60 => ?_) (fun c60 => ?_)
            · skip
              have c60 := lt_nI (by omega) c60
              refine lv_iinc (v := nI (i + 1)) (lv' := [(5, .int (nI (i + 1))), (0, .ref (M)), (1, .int (nI j)), (2, .int (iI z)), (3, .int (nI (σ.2.2.2.2.2))), (4, .int (nI t))]) S.1 S.2.1 dX3_show_65 hl (k := 5) rfl (nI_inc _ 1) (by decide) rfl (fun ls hl => ?_)
              refine lv_goto (tgt := 42) S.1 S.2.1 dX3_show_68 (by decide) ?_
              exact ih42 _ _ _ _ (by omega) ⟨i + 1, v, lv_sub hl [1, 2, 3, 4, 5, 0] rfl, hH, m0, m1, m2, m3, m4, m5, m6, m7, m8, mz9, m10, m11, m12, hF, by omega, lt_s hall c60, rfl⟩
            · skip
              have c60 := nlt_nI (by omega) c60
              have hth := there_f (k := 4 * σ.2.2.2.2.2) (show 4 * t + i < 4 * σ.2.2.2.2.2 by omega) c60
              refine lv_iconst (v := nI 0) S.1 S.2.1 dX3_show_63 (by decide) ?_
              exact rt_i S hr hlk hH dX3_show_64 (⟨rfl, hF, by rw [sShow_ok hj0 ⟨hz1, hz2⟩ (by omega)]; exact (show_no hth).symm, by rw [sShow_ok hj0 ⟨hz1, hz2⟩ (by omega)]; exact ⟨_, _, _, _, _, _, _, _, _, _, _, _, _, _, _, m0, m1, m2, m3, m4, m5, m6, m7, m8, mz9, m10, m11, m12, hsl, mnone_I hmi⟩⟩)
      · skip
        have c15 : ¬ z ≤ 99999999 := fun q => c15 ((iI_le (by omega) (by omega)).mpr q)
        refine lv_iconst (v := (-1)) S.1 S.2.1 dX3_show_18 (by decide) ?_
        exact rt_i S hr hlk hH dX3_show_19 (⟨rfl, hF, by rw [sShow_k hj0 ⟨hz1, hz2⟩ (Or.inr (by omega))], by rw [sShow_k hj0 ⟨hz1, hz2⟩ (Or.inr (by omega))]; exact ⟨_, _, _, _, _, _, _, _, _, _, _, _, _, _, _, m0, m1, m2, m3, m4, m5, m6, m7, m8, mz9, m10, m11, m12, hsl, hmi⟩⟩)

