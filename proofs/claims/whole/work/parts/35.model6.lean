def GS (X Y : PL) (k : Nat) (g : Int32) : Prop := (g = nI 1 ∧ X.length = Y.length ∧ ∀ i, i < k → cd X i = cd Y i ∧ cf X i = cf Y i) ∨ (g = nI 0 ∧ X ≠ Y)
section G35
variable {X Y : PL} {k : Nat} {g : Int32}
theorem GS_l (h : GS X Y k g) (hg : g ≠ 0) : X.length = Y.length := by
  rcases h with ⟨_, h, _⟩ | ⟨e, _⟩
  · exact h
  · exact absurd e hg
theorem GS_s (h : GS X Y k g) (hg : g ≠ 0) (he : cd X k = cd Y k ∧ cf X k = cf Y k) : GS X Y (k + 1) (nI 1) := by
  rcases h with ⟨_, h1, h2⟩ | ⟨e, _⟩
  · exact Or.inl ⟨rfl, h1, lt_s h2 he⟩
  · exact absurd e hg
theorem GS_b (h : GS X Y k g) : g = 0 ∨ g = 1 := by
  rcases h with ⟨e, _⟩ | ⟨e, _⟩
  · exact Or.inr e
  · exact Or.inl e
theorem GS_e (h : GS X Y k g) (hk : X.length ≤ k) : (g = 1 ∧ X = Y) ∨ (g = 0 ∧ X ≠ Y) := by
  rcases h with ⟨e, h1, h2⟩ | h
  · exact Or.inl ⟨e, pl_ext h1 (fun i hi => h2 i (by omega))⟩
  · exact Or.inr h
theorem GS_z (h : GS X Y k g) (hg : g = 0) : (g = 1 ∧ X = Y) ∨ (g = 0 ∧ X ≠ Y) := by
  rcases h with ⟨e, _⟩ | h
  · rw [e] at hg; exact absurd hg (by decide)
  · exact Or.inr h
end G35
/-- the value, term by term -/
def mvL (x : Int64) : PL → Int64
  | [] => 0
  | t :: L => lI t.2 * ipw x (t.1 / 10000000000000000) + mvL x L
theorem ipw_add (x : Int64) (a b : Nat) : ipw x (a + b) = ipw x a * ipw x b := by
  induction a with
  | zero => simp [ipw]
  | succ a ih => rw [Nat.succ_add, ipw, ipw, ih, Int64.mul_assoc]
theorem mv_s {x v : Int64} {i : Nat} : v * ipw x i * x = v * ipw x (i + 1) := by
  rw [ipw, Int64.mul_assoc, Int64.mul_comm (ipw x i) x]
theorem mvL_app (x : Int64) (L : PL) (t : Nat × Int) : mvL x (L ++ [t]) = mvL x L + lI t.2 * ipw x (t.1 / 10000000000000000) := by
  induction L with
  | nil => simp [mvL]
  | cons s L ih => rw [List.cons_append, mvL, ih, mvL, Int64.add_assoc]
theorem mv_t {x : Int64} {L : PL} {k i : Nat} (hk : k < L.length) (hok : okP L) (hi : i = bsm (hiC (cd L k)) (loC (cd L k)) 8) : mvL x (L.take k) + lI (cf L k) * ipw x i = mvL x (L.take (k + 1)) := by
  rw [take_cd hk, mvL_app, hi, vC_deg (hok.2.2 _ (cd_mem hk)).1]
theorem mv_h (x : Int64) : ∀ (L : PL) (v : Int64) (r : Nat), Srt L → (∀ t ∈ L, t.1 / 10000000000000000 ≤ r) → hvL x L v r = v * ipw x r + mvL x L
  | [], v, r, _, _ => by simp [hvL, mvL]
  | t :: L, v, r, hs, hr => by
    obtain ⟨h1, h2⟩ := srt_cons.mp hs
    have ht := hr t List.mem_cons_self
    rw [hvL, Nat.min_eq_right ht, mv_h x L _ _ h2 (fun s hs => Nat.div_le_div_right (Nat.le_of_lt (h1 s hs))), mvL, Int64.add_mul, Int64.mul_assoc, ← ipw_add, Nat.sub_add_cancel ht, Int64.add_assoc]
theorem mv_eq {x : Int64} {L : PL} (hok : okP L) : hvL x L 0 (hv0 L) = mvL x L := by
  rw [mv_h x L 0 (hv0 L) hok.1 (fun t ht => ?_)]
  · simp
  · obtain ⟨i, hi, rfl⟩ := mem_cd ht
    unfold hv0
    rw [if_pos (by omega)]
    exact Nat.div_le_div_right (srt_cd_le hok.1 (Nat.zero_le i) hi)
theorem slots_0 {gc gh gl : Nat → Int64} {ma : Nat → Int32} {Sl : Nat → PL} {z : Nat} (hsl : SlotsOK ma gc gh gl Sl) (hz : z < 62) : SlotsOK (upd ma z (nI 0)) gc gh gl (va_up Sl z []) := by
  intro y hy
  by_cases q : y = z
  · subst q
    rw [va_up_self, pk_us]
    exact ⟨okP_nil, rfl, fun j h => absurd h (Nat.not_lt_zero j)⟩
  · rw [va_up_ne _ _ q, pk_un q]
    exact hsl y hy
theorem whole_in {ma : Nat → Int32} {gc gh gl : Nat → Int64} {Sl : Nat → PL} {z : Nat} {v : Int} {r : Int32} (hv : -99999999 ≤ v ∧ v ≤ 99999999) (h : (r = 1 ∧ ∃ K, cut 60 (one 0 v) = some K ∧ SlotsOK ma gc gh gl (va_up Sl z K)) ∨ (r = 0 ∧ cut 60 (one 0 v) = none ∧ SlotsOK ma gc gh gl Sl)) : r = nI 1 ∧ SlotsOK ma gc gh gl (va_up Sl z (one 0 v)) := by
  rcases h with ⟨e, K, e1, e2⟩ | ⟨_, e1, _⟩
  · rw [(one_some e1).1]; exact ⟨e, e2⟩
  · have := one_none e1
    omega
/-- the flag of a product that is worked at slot 57 -/
def GP (Sl : Nat → PL) (g : Int32) (o : Option PL) (f : PL → Option PL) : Prop := (g = nI 1 ∧ ∃ A, Sl 57 = A ∧ o = f A) ∨ (g = nI 0 ∧ o = none)
section GP5
variable {Sl : Nat → PL} {g : Int32} {o : Option PL} {f f' : PL → Option PL}
theorem GP_1 (h : GP Sl g o f) (hg : g ≠ 0) : ∃ A, Sl 57 = A ∧ o = f A := by
  rcases h with ⟨_, h⟩ | ⟨e, _⟩
  · exact h
  · exact absurd e hg
theorem GP_0 (h : GP Sl g o f) (hg : g = 0) : o = none := by
  rcases h with ⟨e, _⟩ | ⟨_, h⟩
  · rw [e] at hg; exact absurd hg (by decide)
  · exact h
theorem GP_cg (h : GP Sl g o f) (e : ∀ A, f A = f' A) : GP Sl g o f' := by
  rw [← funext e]; exact h
theorem GP_end {R : Nat → PL} {c s i : Nat} (h : GP Sl g o (fun A => (pwr (R s) (dig c s - i) A).bind (wt R c (15 - s)))) (hs : s < 16) (hi : dig c s ≤ i) : GP Sl g o (wt R c (16 - (s + 1))) := GP_cg h (fun A => wt_end hs hi)
theorem GQ_s {F A : PL} {d i y : Nat} {r : Int32} {q : PL → Option PL} {ma : Nat → Int32} {gc gh gl : Nat → Int64} (hi : i < d) (hA : Sl 57 = A) (hF : Sl y = F) (hw : o = (pwr F (d - i) A).bind q) (hq : (r = 1 ∧ ∃ K, pmul (Sl 57) (Sl y) = some K ∧ SlotsOK ma gc gh gl (va_up Sl 57 K)) ∨ (r = 0 ∧ pmul (Sl 57) (Sl y) = none ∧ SlotsOK ma gc gh gl Sl)) : ∃ S', SlotsOK ma gc gh gl S' ∧ (∀ i, i ≠ 57 → S' i = Sl i) ∧ GP S' r o (fun A => (pwr F (d - (i + 1)) A).bind q) := by
  rw [hA, hF] at hq
  rcases hq with ⟨e, K, e1, e2⟩ | ⟨e, e1, e2⟩
  · exact ⟨_, e2, fun i hi => va_up_ne _ _ hi, Or.inl ⟨e, K, va_up_self _ _ _, hw.trans (pwr_some hi e1)⟩⟩
  · exact ⟨_, e2, fun i _ => rfl, Or.inr ⟨e, hw.trans (pwr_none hi e1)⟩⟩
theorem GQ_k {S0 : Nat → PL} {acc : PL} {r : Int32} {ma : Nat → Int32} {gc gh gl : Nat → Int64} {Q : Prop} (h : ∃ S', SlotsOK ma gc gh gl S' ∧ (∀ i, i ≠ 57 → S' i = Sl i) ∧ GP S' r o f) (h5 : ∀ i, i < 56 → Sl i = S0 i) (ha : Sl 56 = acc) (_ : Q) : ∃ S', SlotsOK ma gc gh gl S' ∧ (∀ i, i < 56 → S' i = S0 i) ∧ S' 56 = acc ∧ GP S' r o f := by
  obtain ⟨S', g1, g2, g3⟩ := h
  exact ⟨S', g1, fun i hi => (g2 i (by omega)).trans (h5 i hi), (g2 56 (by omega)).trans ha, g3⟩
end GP5
theorem sl_I {σ : St} {Sl Sl' : Nat → PL} {nu f1 f2 f3 f4 : Nat → Int32} (h : ModI σ Sl nu f1 f2 f3 f4) (e : ∀ i, i < 56 → Sl' i = Sl i) : ModI σ Sl' nu f1 f2 f3 f4 := by
  obtain ⟨h1, h2, h3, h4⟩ := h
  exact ⟨fun i hi => (e i (by omega)).trans (h1 i hi), fun i hi => (e _ (by omega)).trans (h2 i hi), h3, h4⟩

set_option maxHeartbeats 4000000 in
set_option maxRecDepth 100000 in
theorem kX3_isSame {l : Launch} {G : Gx} {B : Nat} {w : Wm} {n : Nat} (M a b : Nat) (Sl : Nat → PL) (hc pc cnt big : Int32) (ma : Nat → Int32) (gc gh gl : Nat → Int64) (m0 : w M = some (MOb M hc pc cnt big)) (m1 : w (M + 1) = some (eI G 62 ma)) (m2 : w (M + 2) = some (eJ G 3720 gc)) (m3 : w (M + 3) = some (eJ G 3720 gh)) (m4 : w (M + 4) = some (eJ G 3720 gl)) (ha : a < 62) (hb : b < 62) (hsl : SlotsOK ma gc gh gl Sl) : Met l yX3_isSame (wsM yX3_isSame cX3_isSame 7 (some .boolean)) ({ frames := 0, cells := 0, slots := 0, locals := 0 } : Room) (Pcx G B w n [.ref (M), .int (nI a), .int (nI b)]) (Qi G B (fun r w' n' => w' = w ∧ n' = n ∧ ((r = 1 ∧ Sl a = Sl b) ∨ (r = 0 ∧ Sl a ≠ Sl b)))) 0 0 (FA B) := by
  refine en (by decide) (Nat.le_of_ble_eq_true rfl) ?_
  intro p ev s mm ag bl mt cde S hr hlk hnm hK H hH ls hl
  have hl : lv_has ls 7 [(0, .ref (M)), (1, .int (nI a)), (2, .int (nI b))] := hl
  obtain ⟨okx, hmx, hsx⟩ := hsl a ha
  obtain ⟨oky, hmy, hsy⟩ := hsl b hb
  have hlx := okx.2.1
  have hly := oky.2.1
  refine lv_aload_n S.1 S.2.1 dX3_isSame_0 rfl (lv_at hl 0 rfl) ?_
  refine gfX3_9 S hK hH m0 dX3_isSame_1 ?_
  refine lv_iload_n S.1 S.2.1 dX3_isSame_4 rfl (lv_at hl 1 rfl) ?_
  refine ald_i S hK hH m1 (by omega) (by omega) dX3_isSame_5 ?_
  refine tpi (x' := nI ((Sl a).length)) (hmx) ?_
  refine lv_aload_n S.1 S.2.1 dX3_isSame_6 rfl (lv_at hl 0 rfl) ?_
  refine gfX3_9 S hK hH m0 dX3_isSame_7 ?_
  refine lv_iload_n S.1 S.2.1 dX3_isSame_10 rfl (lv_at hl 2 rfl) ?_
  refine ald_i S hK hH m1 (by omega) (by omega) dX3_isSame_11 ?_
  refine tpi (x' := nI ((Sl b).length)) (hmy) ?_
  refine bn_ne (tgt := 19) S dX3_isSame_12 (by decide) (by omega) (fun c12 => ?_) (fun c12 => ?_)
  · skip
    refine lv_iconst (v := nI 0) S.1 S.2.1 dX3_isSame_19 (by decide) ?_
    refine lv_istore_n (lv' := [(3, .int (nI 0)), (0, .ref (M)), (1, .int (nI a)), (2, .int (nI b))]) S.1 S.2.1 dX3_isSame_20 rfl hl (by decide) rfl (fun ls hl => ?_)
    refine lv_iconst (v := nI 0) S.1 S.2.1 dX3_isSame_21 (by decide) ?_
    refine lv_istore (lv' := [(4, .int (nI 0)), (3, .int (nI 0)), (0, .ref (M)), (1, .int (nI a)), (2, .int (nI b))]) S.1 S.2.1 dX3_isSame_22 hl (by decide) rfl (fun ls hl => ?_)
    refine wlp (P := fun k_ ls H' locs' => ∃ (k : Nat) (g : Int32), lv_has ls 7 [(0, .ref (M)), (1, .int (nI a)), (2, .int (nI b)), (3, .int (g)), (4, .int (nI k))] ∧ (H = H' ∧ [] = locs') ∧ (k ≤ (Sl a).length) ∧ (GS (Sl a) (Sl b) k g) ∧ k_ = (Sl a).length - k) ?_ (k0 := (Sl a).length - (0)) ⟨0, nI 0, lv_sub hl [2, 3, 4, 1, 0] rfl, ⟨rfl, rfl⟩, by omega, Or.inr ⟨rfl, fun e => c12 (by rw [e])⟩, rfl⟩
    intro k24 ls H' locs' hP ih24
    obtain ⟨k, g, hl, ⟨rfl, rfl⟩, hk, hg, hk24⟩ := hP
    refine lv_iload S.1 S.2.1 dX3_isSame_24 (lv_at hl 4 rfl) ?_
    refine lv_aload_n S.1 S.2.1 dX3_isSame_26 rfl (lv_at hl 0 rfl) ?_
    refine gfX3_9 S hK hH m0 dX3_isSame_27 ?_
    refine lv_iload_n S.1 S.2.1 dX3_isSame_30 rfl (lv_at hl 1 rfl) ?_
    refine ald_i S hK hH m1 (by omega) (by omega) dX3_isSame_31 ?_
    refine tpi (x' := nI ((Sl a).length)) (hmx) ?_
    refine bn_ge (tgt := 123) S dX3_isSame_32 (by decide) (by omega) (fun c32 => ?_) (fun c32 => ?_)
    · skip
      refine lv_iload_n S.1 S.2.1 dX3_isSame_123 rfl (lv_at hl 3 rfl) ?_
      exact rt_z S hr hlk hH dX3_isSame_124 (GS_b hg) (⟨rfl, rfl, GS_e hg c32⟩)
    · skip
      refine lv_iload_n S.1 S.2.1 dX3_isSame_35 rfl (lv_at hl 3 rfl) ?_
      refine lv_if_eq (tgt := 123) S.1 S.2.1 dX3_isSame_36 (by decide) (fun c36 => ?_) (fun c36 => ?_)
      · skip
        refine lv_iload_n S.1 S.2.1 dX3_isSame_123 rfl (lv_at hl 3 rfl) ?_
        exact rt_z S hr hlk hH dX3_isSame_124 (GS_b hg) (⟨rfl, rfl, GS_z hg c36⟩)
      · skip
        have hxy := GS_l hg c36
        have hcx := (okx.2.2 _ (cd_mem c32))
        have hcy := (oky.2.2 _ (cd_mem (show k < (Sl b).length by omega)))
        have q1 : -99999999 ≤ cf (Sl a) k ∧ cf (Sl a) k ≤ 99999999 := hcx.2.2
        have q2 : -99999999 ≤ cf (Sl b) k ∧ cf (Sl b) k ≤ 99999999 := hcy.2.2
        have b1 : hiC (cd (Sl a) k) < 800000000000000000 := cv8_lt _
        have b2 : loC (cd (Sl a) k) < 800000000000000000 := cv8_lt _
        have b3 : hiC (cd (Sl b) k) < 800000000000000000 := cv8_lt _
        have b4 : loC (cd (Sl b) k) < 800000000000000000 := cv8_lt _
        refine lv_bipush (v := nI 60) S.1 S.2.1 dX3_isSame_39 (by decide) ?_
        refine lv_iload_n S.1 S.2.1 dX3_isSame_41 rfl (lv_at hl 1 rfl) ?_
        refine lv_imul S.1 S.2.1 dX3_isSame_42 ?_
        refine tpi (x' := nI (60 * a)) (pk_mul _ _) ?_
        refine lv_iload S.1 S.2.1 dX3_isSame_43 (lv_at hl 4 rfl) ?_
        refine lv_iadd S.1 S.2.1 dX3_isSame_45 ?_
        refine tpi (x' := nI (60 * a + k)) (nI_add _ _) ?_
        refine lv_istore (lv' := [(5, .int (nI (60 * a + k))), (0, .ref (M)), (1, .int (nI a)), (2, .int (nI b)), (3, .int (g)), (4, .int (nI k))]) S.1 S.2.1 dX3_isSame_46 hl (by decide) rfl (fun ls hl => ?_)
        refine lv_bipush (v := nI 60) S.1 S.2.1 dX3_isSame_48 (by decide) ?_
        refine lv_iload_n S.1 S.2.1 dX3_isSame_50 rfl (lv_at hl 3 rfl) ?_
        refine lv_imul S.1 S.2.1 dX3_isSame_51 ?_
        refine tpi (x' := nI (60 * b)) (pk_mul _ _) ?_
        refine lv_iload S.1 S.2.1 dX3_isSame_52 (lv_at hl 5 rfl) ?_
        refine lv_iadd S.1 S.2.1 dX3_isSame_54 ?_
        refine tpi (x' := nI (60 * b + k)) (nI_add _ _) ?_
        refine lv_istore (lv' := [(6, .int (nI (60 * b + k))), (5, .int (nI (60 * a + k))), (0, .ref (M)), (1, .int (nI a)), (2, .int (nI b)), (3, .int (g)), (4, .int (nI k))]) S.1 S.2.1 dX3_isSame_55 hl (by decide) rfl (fun ls hl => ?_)
        refine lv_aload_n S.1 S.2.1 dX3_isSame_57 rfl (lv_at hl 2 rfl) ?_
        refine gfX3_13 S hK hH m0 dX3_isSame_58 ?_
        refine lv_iload S.1 S.2.1 dX3_isSame_61 (lv_at hl 1 rfl) ?_
        refine ald_l S hK hH m2 (by omega) (by omega) dX3_isSame_63 ?_
        refine tpl (x' := lI (cf (Sl a) k)) ((hsx k c32).1) ?_
        refine lv_aload_n S.1 S.2.1 dX3_isSame_64 rfl (lv_at hl 2 rfl) ?_
        refine gfX3_13 S hK hH m0 dX3_isSame_65 ?_
        refine lv_iload S.1 S.2.1 dX3_isSame_68 (lv_at hl 0 rfl) ?_
        refine ald_l S hK hH m2 (by omega) (by omega) dX3_isSame_70 ?_
        refine tpl (x' := lI (cf (Sl b) k)) ((hsy k (by omega)).1) ?_
        refine bl_ne (tgt := 115) S dX3_isSame_71 dX3_isSame_72 (by decide) (fun c71 => ?_) (fun c71 => ?_)
        · skip
          have hne : Sl a ≠ Sl b := fun e => c71 (by rw [e])
          refine lv_iconst (v := nI 0) S.1 S.2.1 dX3_isSame_115 (by decide) ?_
          refine lv_istore_n (lv' := [(3, .int (nI 0)), (6, .int (nI (60 * b + k))), (5, .int (nI (60 * a + k))), (0, .ref (M)), (1, .int (nI a)), (2, .int (nI b)), (4, .int (nI k))]) S.1 S.2.1 dX3_isSame_116 rfl hl (by decide) rfl (fun ls hl => ?_)
          refine lv_iinc (v := nI (k + 1)) (lv' := [(4, .int (nI (k + 1))), (3, .int (nI 0)), (6, .int (nI (60 * b + k))), (5, .int (nI (60 * a + k))), (0, .ref (M)), (1, .int (nI a)), (2, .int (nI b))]) S.1 S.2.1 dX3_isSame_117 hl (k := 6) rfl (nI_inc _ 1) (by decide) rfl (fun ls hl => ?_)
          refine lv_goto (tgt := 24) S.1 S.2.1 dX3_isSame_120 (by decide) ?_
          exact ih24 _ _ _ _ (by omega) ⟨k + 1, nI 0, lv_sub hl [4, 5, 6, 1, 0] rfl, ⟨rfl, rfl⟩, by omega, Or.inr ⟨rfl, hne⟩, rfl⟩
        · skip
          have c71 : cf (Sl a) k = cf (Sl b) k := (lI_eq (by omega) (by omega)).mp c71
          refine lv_aload_n S.1 S.2.1 dX3_isSame_75 rfl (lv_at hl 2 rfl) ?_
          refine gfX3_17 S hK hH m0 dX3_isSame_76 ?_
          refine lv_iload S.1 S.2.1 dX3_isSame_79 (lv_at hl 1 rfl) ?_
          refine ald_l S hK hH m3 (by omega) (by omega) dX3_isSame_81 ?_
          refine tpl (x' := lN (hiC (cd (Sl a) k))) ((hsx k c32).2.1) ?_
          refine lv_aload_n S.1 S.2.1 dX3_isSame_82 rfl (lv_at hl 2 rfl) ?_
          refine gfX3_17 S hK hH m0 dX3_isSame_83 ?_
          refine lv_iload S.1 S.2.1 dX3_isSame_86 (lv_at hl 0 rfl) ?_
          refine ald_l S hK hH m3 (by omega) (by omega) dX3_isSame_88 ?_
          refine tpl (x' := lN (hiC (cd (Sl b) k))) ((hsy k (by omega)).2.1) ?_
          refine bl_ne (tgt := 115) S dX3_isSame_89 dX3_isSame_90 (by decide) (fun c89 => ?_) (fun c89 => ?_)
          · skip
            have hne : Sl a ≠ Sl b := fun e => c89 (by rw [e])
            refine lv_iconst (v := nI 0) S.1 S.2.1 dX3_isSame_115 (by decide) ?_
            refine lv_istore_n (lv' := [(3, .int (nI 0)), (6, .int (nI (60 * b + k))), (5, .int (nI (60 * a + k))), (0, .ref (M)), (1, .int (nI a)), (2, .int (nI b)), (4, .int (nI k))]) S.1 S.2.1 dX3_isSame_116 rfl hl (by decide) rfl (fun ls hl => ?_)
            refine lv_iinc (v := nI (k + 1)) (lv' := [(4, .int (nI (k + 1))), (3, .int (nI 0)), (6, .int (nI (60 * b + k))), (5, .int (nI (60 * a + k))), (0, .ref (M)), (1, .int (nI a)), (2, .int (nI b))]) S.1 S.2.1 dX3_isSame_117 hl (k := 6) rfl (nI_inc _ 1) (by decide) rfl (fun ls hl => ?_)
            refine lv_goto (tgt := 24) S.1 S.2.1 dX3_isSame_120 (by decide) ?_
            exact ih24 _ _ _ _ (by omega) ⟨k + 1, nI 0, lv_sub hl [4, 5, 6, 1, 0] rfl, ⟨rfl, rfl⟩, by omega, Or.inr ⟨rfl, hne⟩, rfl⟩
          · skip
            have c89 : hiC (cd (Sl a) k) = hiC (cd (Sl b) k) := (pk_lEQ (by omega) (by omega)).mp c89
            refine lv_aload_n S.1 S.2.1 dX3_isSame_93 rfl (lv_at hl 2 rfl) ?_
            refine gfX3_20 S hK hH m0 dX3_isSame_94 ?_
            refine lv_iload S.1 S.2.1 dX3_isSame_97 (lv_at hl 1 rfl) ?_
            refine ald_l S hK hH m4 (by omega) (by omega) dX3_isSame_99 ?_
            refine tpl (x' := lN (loC (cd (Sl a) k))) ((hsx k c32).2.2) ?_
            refine lv_aload_n S.1 S.2.1 dX3_isSame_100 rfl (lv_at hl 2 rfl) ?_
            refine gfX3_20 S hK hH m0 dX3_isSame_101 ?_
            refine lv_iload S.1 S.2.1 dX3_isSame_104 (lv_at hl 0 rfl) ?_
            refine ald_l S hK hH m4 (by omega) (by omega) dX3_isSame_106 ?_
            refine tpl (x' := lN (loC (cd (Sl b) k))) ((hsy k (by omega)).2.2) ?_
            refine bl_ne (tgt := 115) S dX3_isSame_107 dX3_isSame_108 (by decide) (fun c107 => ?_) (fun c107 => ?_)
            · skip
              have hne : Sl a ≠ Sl b := fun e => c107 (by rw [e])
              refine lv_iconst (v := nI 0) S.1 S.2.1 dX3_isSame_115 (by decide) ?_
              refine lv_istore_n (lv' := [(3, .int (nI 0)), (6, .int (nI (60 * b + k))), (5, .int (nI (60 * a + k))), (0, .ref (M)), (1, .int (nI a)), (2, .int (nI b)), (4, .int (nI k))]) S.1 S.2.1 dX3_isSame_116 rfl hl (by decide) rfl (fun ls hl => ?_)
              refine lv_iinc (v := nI (k + 1)) (lv' := [(4, .int (nI (k + 1))), (3, .int (nI 0)), (6, .int (nI (60 * b + k))), (5, .int (nI (60 * a + k))), (0, .ref (M)), (1, .int (nI a)), (2, .int (nI b))]) S.1 S.2.1 dX3_isSame_117 hl (k := 6) rfl (nI_inc _ 1) (by decide) rfl (fun ls hl => ?_)
              refine lv_goto (tgt := 24) S.1 S.2.1 dX3_isSame_120 (by decide) ?_
              exact ih24 _ _ _ _ (by omega) ⟨k + 1, nI 0, lv_sub hl [4, 5, 6, 1, 0] rfl, ⟨rfl, rfl⟩, by omega, Or.inr ⟨rfl, hne⟩, rfl⟩
            · skip
              have c107 : loC (cd (Sl a) k) = loC (cd (Sl b) k) := (pk_lEQ (by omega) (by omega)).mp c107
              have hcd : cd (Sl a) k = cd (Sl b) k := vC_inj hcx.1 hcy.1 ⟨c89, c107⟩
              refine lv_iconst (v := nI 1) S.1 S.2.1 dX3_isSame_111 (by decide) ?_
              refine lv_goto (tgt := 116) S.1 S.2.1 dX3_isSame_112 (by decide) ?_
              refine lv_istore_n (lv' := [(3, .int (nI 1)), (6, .int (nI (60 * b + k))), (5, .int (nI (60 * a + k))), (0, .ref (M)), (1, .int (nI a)), (2, .int (nI b)), (4, .int (nI k))]) S.1 S.2.1 dX3_isSame_116 rfl hl (by decide) rfl (fun ls hl => ?_)
              refine lv_iinc (v := nI (k + 1)) (lv' := [(4, .int (nI (k + 1))), (3, .int (nI 1)), (6, .int (nI (60 * b + k))), (5, .int (nI (60 * a + k))), (0, .ref (M)), (1, .int (nI a)), (2, .int (nI b))]) S.1 S.2.1 dX3_isSame_117 hl (k := 6) rfl (nI_inc _ 1) (by decide) rfl (fun ls hl => ?_)
              refine lv_goto (tgt := 24) S.1 S.2.1 dX3_isSame_120 (by decide) ?_
              exact ih24 _ _ _ _ (by omega) ⟨k + 1, nI 1, lv_sub hl [4, 5, 6, 1, 0] rfl, ⟨rfl, rfl⟩, by omega, GS_s hg c36 ⟨hcd, c71⟩, rfl⟩
  · skip
    refine lv_iconst (v := nI 1) S.1 S.2.1 dX3_isSame_15 (by decide) ?_
    refine lv_goto (tgt := 20) S.1 S.2.1 dX3_isSame_16 (by decide) ?_
    refine lv_istore_n (lv' := [(3, .int (nI 1)), (0, .ref (M)), (1, .int (nI a)), (2, .int (nI b))]) S.1 S.2.1 dX3_isSame_20 rfl hl (by decide) rfl (fun ls hl => ?_)
    refine lv_iconst (v := nI 0) S.1 S.2.1 dX3_isSame_21 (by decide) ?_
    refine lv_istore (lv' := [(4, .int (nI 0)), (3, .int (nI 1)), (0, .ref (M)), (1, .int (nI a)), (2, .int (nI b))]) S.1 S.2.1 dX3_isSame_22 hl (by decide) rfl (fun ls hl => ?_)
    refine wlp (P := fun k_ ls H' locs' => ∃ (k : Nat) (g : Int32), lv_has ls 7 [(0, .ref (M)), (1, .int (nI a)), (2, .int (nI b)), (3, .int (g)), (4, .int (nI k))] ∧ (H = H' ∧ [] = locs') ∧ (k ≤ (Sl a).length) ∧ (GS (Sl a) (Sl b) k g) ∧ k_ = (Sl a).length - k) ?_ (k0 := (Sl a).length - (0)) ⟨0, nI 1, lv_sub hl [2, 3, 4, 1, 0] rfl, ⟨rfl, rfl⟩, by omega, Or.inl ⟨rfl, c12, fun i h => absurd h (Nat.not_lt_zero i)⟩, rfl⟩
    intro k24 ls H' locs' hP ih24
    obtain ⟨k, g, hl, ⟨rfl, rfl⟩, hk, hg, hk24⟩ := hP
    refine lv_iload S.1 S.2.1 dX3_isSame_24 (lv_at hl 4 rfl) ?_
    refine lv_aload_n S.1 S.2.1 dX3_isSame_26 rfl (lv_at hl 0 rfl) ?_
    refine gfX3_9 S hK hH m0 dX3_isSame_27 ?_
    refine lv_iload_n S.1 S.2.1 dX3_isSame_30 rfl (lv_at hl 1 rfl) ?_
    refine ald_i S hK hH m1 (by omega) (by omega) dX3_isSame_31 ?_
    refine tpi (x' := nI ((Sl a).length)) (hmx) ?_
    refine bn_ge (tgt := 123) S dX3_isSame_32 (by decide) (by omega) (fun c32 => ?_) (fun c32 => ?_)
    · skip
      refine lv_iload_n S.1 S.2.1 dX3_isSame_123 rfl (lv_at hl 3 rfl) ?_
      exact rt_z S hr hlk hH dX3_isSame_124 (GS_b hg) (⟨rfl, rfl, GS_e hg c32⟩)
    · skip
      refine lv_iload_n S.1 S.2.1 dX3_isSame_35 rfl (lv_at hl 3 rfl) ?_
      refine lv_if_eq (tgt := 123) S.1 S.2.1 dX3_isSame_36 (by decide) (fun c36 => ?_) (fun c36 => ?_)
      · skip
        refine lv_iload_n S.1 S.2.1 dX3_isSame_123 rfl (lv_at hl 3 rfl) ?_
        exact rt_z S hr hlk hH dX3_isSame_124 (GS_b hg) (⟨rfl, rfl, GS_z hg c36⟩)
      · skip
        have hxy := GS_l hg c36
        have hcx := (okx.2.2 _ (cd_mem c32))
        have hcy := (oky.2.2 _ (cd_mem (show k < (Sl b).length by omega)))
        have q1 : -99999999 ≤ cf (Sl a) k ∧ cf (Sl a) k ≤ 99999999 := hcx.2.2
        have q2 : -99999999 ≤ cf (Sl b) k ∧ cf (Sl b) k ≤ 99999999 := hcy.2.2
        have b1 : hiC (cd (Sl a) k) < 800000000000000000 := cv8_lt _
        have b2 : loC (cd (Sl a) k) < 800000000000000000 := cv8_lt _
        have b3 : hiC (cd (Sl b) k) < 800000000000000000 := cv8_lt _
        have b4 : loC (cd (Sl b) k) < 800000000000000000 := cv8_lt _
        refine lv_bipush (v := nI 60) S.1 S.2.1 dX3_isSame_39 (by decide) ?_
        refine lv_iload_n S.1 S.2.1 dX3_isSame_41 rfl (lv_at hl 1 rfl) ?_
        refine lv_imul S.1 S.2.1 dX3_isSame_42 ?_
        refine tpi (x' := nI (60 * a)) (pk_mul _ _) ?_
        refine lv_iload S.1 S.2.1 dX3_isSame_43 (lv_at hl 4 rfl) ?_
        refine lv_iadd S.1 S.2.1 dX3_isSame_45 ?_
        refine tpi (x' := nI (60 * a + k)) (nI_add _ _) ?_
        refine lv_istore (lv' := [(5, .int (nI (60 * a + k))), (0, .ref (M)), (1, .int (nI a)), (2, .int (nI b)), (3, .int (g)), (4, .int (nI k))]) S.1 S.2.1 dX3_isSame_46 hl (by decide) rfl (fun ls hl => ?_)
        refine lv_bipush (v := nI 60) S.1 S.2.1 dX3_isSame_48 (by decide) ?_
        refine lv_iload_n S.1 S.2.1 dX3_isSame_50 rfl (lv_at hl 3 rfl) ?_
        refine lv_imul S.1 S.2.1 dX3_isSame_51 ?_
        refine tpi (x' := nI (60 * b)) (pk_mul _ _) ?_
        refine lv_iload S.1 S.2.1 dX3_isSame_52 (lv_at hl 5 rfl) ?_
        refine lv_iadd S.1 S.2.1 dX3_isSame_54 ?_
        refine tpi (x' := nI (60 * b + k)) (nI_add _ _) ?_
        refine lv_istore (lv' := [(6, .int (nI (60 * b + k))), (5, .int (nI (60 * a + k))), (0, .ref (M)), (1, .int (nI a)), (2, .int (nI b)), (3, .int (g)), (4, .int (nI k))]) S.1 S.2.1 dX3_isSame_55 hl (by decide) rfl (fun ls hl => ?_)
        refine lv_aload_n S.1 S.2.1 dX3_isSame_57 rfl (lv_at hl 2 rfl) ?_
        refine gfX3_13 S hK hH m0 dX3_isSame_58 ?_
        refine lv_iload S.1 S.2.1 dX3_isSame_61 (lv_at hl 1 rfl) ?_
        refine ald_l S hK hH m2 (by omega) (by omega) dX3_isSame_63 ?_
        refine tpl (x' := lI (cf (Sl a) k)) ((hsx k c32).1) ?_
        refine lv_aload_n S.1 S.2.1 dX3_isSame_64 rfl (lv_at hl 2 rfl) ?_
        refine gfX3_13 S hK hH m0 dX3_isSame_65 ?_
        refine lv_iload S.1 S.2.1 dX3_isSame_68 (lv_at hl 0 rfl) ?_
        refine ald_l S hK hH m2 (by omega) (by omega) dX3_isSame_70 ?_
        refine tpl (x' := lI (cf (Sl b) k)) ((hsy k (by omega)).1) ?_
        refine bl_ne (tgt := 115) S dX3_isSame_71 dX3_isSame_72 (by decide) (fun c71 => ?_) (fun c71 => ?_)
        · skip
          have hne : Sl a ≠ Sl b := fun e => c71 (by rw [e])
          refine lv_iconst (v := nI 0) S.1 S.2.1 dX3_isSame_115 (by decide) ?_
          refine lv_istore_n (lv' := [(3, .int (nI 0)), (6, .int (nI (60 * b + k))), (5, .int (nI (60 * a + k))), (0, .ref (M)), (1, .int (nI a)), (2, .int (nI b)), (4, .int (nI k))]) S.1 S.2.1 dX3_isSame_116 rfl hl (by decide) rfl (fun ls hl => ?_)
          refine lv_iinc (v := nI (k + 1)) (lv' := [(4, .int (nI (k + 1))), (3, .int (nI 0)), (6, .int (nI (60 * b + k))), (5, .int (nI (60 * a + k))), (0, .ref (M)), (1, .int (nI a)), (2, .int (nI b))]) S.1 S.2.1 dX3_isSame_117 hl (k := 6) rfl (nI_inc _ 1) (by decide) rfl (fun ls hl => ?_)
          refine lv_goto (tgt := 24) S.1 S.2.1 dX3_isSame_120 (by decide) ?_
          exact ih24 _ _ _ _ (by omega) ⟨k + 1, nI 0, lv_sub hl [4, 5, 6, 1, 0] rfl, ⟨rfl, rfl⟩, by omega, Or.inr ⟨rfl, hne⟩, rfl⟩
        · skip
          have c71 : cf (Sl a) k = cf (Sl b) k := (lI_eq (by omega) (by omega)).mp c71
          refine lv_aload_n S.1 S.2.1 dX3_isSame_75 rfl (lv_at hl 2 rfl) ?_
          refine gfX3_17 S hK hH m0 dX3_isSame_76 ?_
          refine lv_iload S.1 S.2.1 dX3_isSame_79 (lv_at hl 1 rfl) ?_
          refine ald_l S hK hH m3 (by omega) (by omega) dX3_isSame_81 ?_
          refine tpl (x' := lN (hiC (cd (Sl a) k))) ((hsx k c32).2.1) ?_
          refine lv_aload_n S.1 S.2.1 dX3_isSame_82 rfl (lv_at hl 2 rfl) ?_
          refine gfX3_17 S hK hH m0 dX3_isSame_83 ?_
          refine lv_iload S.1 S.2.1 dX3_isSame_86 (lv_at hl 0 rfl) ?_
          refine ald_l S hK hH m3 (by omega) (by omega) dX3_isSame_88 ?_
          refine tpl (x' := lN (hiC (cd (Sl b) k))) ((hsy k (by omega)).2.1) ?_
          refine bl_ne (tgt := 115) S dX3_isSame_89 dX3_isSame_90 (by decide) (fun c89 => ?_) (fun c89 => ?_)
          · skip
            have hne : Sl a ≠ Sl b := fun e => c89 (by rw [e])
            refine lv_iconst (v := nI 0) S.1 S.2.1 dX3_isSame_115 (by decide) ?_
            refine lv_istore_n (lv' := [(3, .int (nI 0)), (6, .int (nI (60 * b + k))), (5, .int (nI (60 * a + k))), (0, .ref (M)), (1, .int (nI a)), (2, .int (nI b)), (4, .int (nI k))]) S.1 S.2.1 dX3_isSame_116 rfl hl (by decide) rfl (fun ls hl => ?_)
            refine lv_iinc (v := nI (k + 1)) (lv' := [(4, .int (nI (k + 1))), (3, .int (nI 0)), (6, .int (nI (60 * b + k))), (5, .int (nI (60 * a + k))), (0, .ref (M)), (1, .int (nI a)), (2, .int (nI b))]) S.1 S.2.1 dX3_isSame_117 hl (k := 6) rfl (nI_inc _ 1) (by decide) rfl (fun ls hl => ?_)
            refine lv_goto (tgt := 24) S.1 S.2.1 dX3_isSame_120 (by decide) ?_
            exact ih24 _ _ _ _ (by omega) ⟨k + 1, nI 0, lv_sub hl [4, 5, 6, 1, 0] rfl, ⟨rfl, rfl⟩, by omega, Or.inr ⟨rfl, hne⟩, rfl⟩
          · skip
            have c89 : hiC (cd (Sl a) k) = hiC (cd (Sl b) k) := (pk_lEQ (by omega) (by omega)).mp c89
            refine lv_aload_n S.1 S.2.1 dX3_isSame_93 rfl (lv_at hl 2 rfl) ?_
            refine gfX3_20 S hK hH m0 dX3_isSame_94 ?_
            refine lv_iload S.1 S.2.1 dX3_isSame_97 (lv_at hl 1 rfl) ?_
            refine ald_l S hK hH m4 (by omega) (by omega) dX3_isSame_99 ?_
            refine tpl (x' := lN (loC (cd (Sl a) k))) ((hsx k c32).2.2) ?_
            refine lv_aload_n S.1 S.2.1 dX3_isSame_100 rfl (lv_at hl 2 rfl) ?_
            refine gfX3_20 S hK hH m0 dX3_isSame_101 ?_
            refine lv_iload S.1 S.2.1 dX3_isSame_104 (lv_at hl 0 rfl) ?_
            refine ald_l S hK hH m4 (by omega) (by omega) dX3_isSame_106 ?_
            refine tpl (x' := lN (loC (cd (Sl b) k))) ((hsy k (by omega)).2.2) ?_
            refine bl_ne (tgt := 115) S dX3_isSame_107 dX3_isSame_108 (by decide) (fun c107 => ?_) (fun c107 => ?_)
            · skip
              have hne : Sl a ≠ Sl b := fun e => c107 (by rw [e])
              refine lv_iconst (v := nI 0) S.1 S.2.1 dX3_isSame_115 (by decide) ?_
              refine lv_istore_n (lv' := [(3, .int (nI 0)), (6, .int (nI (60 * b + k))), (5, .int (nI (60 * a + k))), (0, .ref (M)), (1, .int (nI a)), (2, .int (nI b)), (4, .int (nI k))]) S.1 S.2.1 dX3_isSame_116 rfl hl (by decide) rfl (fun ls hl => ?_)
              refine lv_iinc (v := nI (k + 1)) (lv' := [(4, .int (nI (k + 1))), (3, .int (nI 0)), (6, .int (nI (60 * b + k))), (5, .int (nI (60 * a + k))), (0, .ref (M)), (1, .int (nI a)), (2, .int (nI b))]) S.1 S.2.1 dX3_isSame_117 hl (k := 6) rfl (nI_inc _ 1) (by decide) rfl (fun ls hl => ?_)
              refine lv_goto (tgt := 24) S.1 S.2.1 dX3_isSame_120 (by decide) ?_
              exact ih24 _ _ _ _ (by omega) ⟨k + 1, nI 0, lv_sub hl [4, 5, 6, 1, 0] rfl, ⟨rfl, rfl⟩, by omega, Or.inr ⟨rfl, hne⟩, rfl⟩
            · skip
              have c107 : loC (cd (Sl a) k) = loC (cd (Sl b) k) := (pk_lEQ (by omega) (by omega)).mp c107
              have hcd : cd (Sl a) k = cd (Sl b) k := vC_inj hcx.1 hcy.1 ⟨c89, c107⟩
              refine lv_iconst (v := nI 1) S.1 S.2.1 dX3_isSame_111 (by decide) ?_
              refine lv_goto (tgt := 116) S.1 S.2.1 dX3_isSame_112 (by decide) ?_
              refine lv_istore_n (lv' := [(3, .int (nI 1)), (6, .int (nI (60 * b + k))), (5, .int (nI (60 * a + k))), (0, .ref (M)), (1, .int (nI a)), (2, .int (nI b)), (4, .int (nI k))]) S.1 S.2.1 dX3_isSame_116 rfl hl (by decide) rfl (fun ls hl => ?_)
              refine lv_iinc (v := nI (k + 1)) (lv' := [(4, .int (nI (k + 1))), (3, .int (nI 1)), (6, .int (nI (60 * b + k))), (5, .int (nI (60 * a + k))), (0, .ref (M)), (1, .int (nI a)), (2, .int (nI b))]) S.1 S.2.1 dX3_isSame_117 hl (k := 6) rfl (nI_inc _ 1) (by decide) rfl (fun ls hl => ?_)
              refine lv_goto (tgt := 24) S.1 S.2.1 dX3_isSame_120 (by decide) ?_
              exact ih24 _ _ _ _ (by omega) ⟨k + 1, nI 1, lv_sub hl [4, 5, 6, 1, 0] rfl, ⟨rfl, rfl⟩, by omega, GS_s hg c36 ⟨hcd, c71⟩, rfl⟩

set_option maxHeartbeats 4000000 in
set_option maxRecDepth 100000 in
theorem kX3_same {l : Launch} {G : Gx} {B : Nat} {w : Wm} {n : Nat} (M : Nat) (x y : Int32) (σ : St) (hs : ModS G w M σ) : Met l yX3_same (wsM yX3_same cX3_same 3 (some .int)) ({ frames := 1, cells := 0, slots := 0, locals := 26 } : Room) (Pcx G B w n [.ref (M), .int (x), .int (y)]) (Qi G B (fun r w' n' => w' = w ∧ n' = n ∧ r = sSame σ x y)) 0 0 (FA B) := by
  refine en (by decide) (Nat.le_of_ble_eq_true rfl) ?_
  intro p ev s mm ag bl mt cde S hr hlk hnm hK H hH ls hl
  have hl : lv_has ls 3 [(0, .ref (M)), (1, .int (x)), (2, .int (y))] := hl
  obtain ⟨Sl, cnt, big, ma, gc, gh, gl, fc, fh, fl, nu, f1, f2, f3, f4, m0, m1, m2, m3, m4, m5, m6, m7, m8, mz9, m10, m11, m12, hsl, hmi⟩ := hs
  obtain ⟨hrl, hhl, hhc, hpc, hpt⟩ := id hmi
  refine lv_iload_n S.1 S.2.1 dX3_same_0 rfl (lv_at hl 1 rfl) ?_
  refine ck_ip (run_S (As := [.int (x)]) (rest := []) S hK hH (kX3_is x) ceX3_is mW350 rfl hl.1 rfl (Nat.le_of_ble_eq_true rfl) dX3_same_1 ⟨rfl, rfl, by decide, by decide⟩ ⟨show 0 + 0 ≤ 0 by omega, show 0 + 0 ≤ 0 by omega⟩) hH (fun r1 H locs hp hH => ?_)
  have hq1 : Hid _ := hp
  clear hp
  refine lv_if_eq (tgt := 14) S.1 S.2.1 dX3_same_4 (by decide) (fun c4 => ?_) (fun c4 => ?_)
  · skip
    rcases hq1 with ⟨e, _⟩ | ⟨_, hb⟩
    · rw [e] at c4; exact absurd c4 (by decide)
    refine lv_iconst (v := (-1)) S.1 S.2.1 dX3_same_14 (by decide) ?_
    refine lv_goto (tgt := 32) S.1 S.2.1 dX3_same_15 (by decide) ?_
    exact rt_i S hr hlk hH dX3_same_32 (⟨rfl, rfl, by rw [sSame_bad (Or.inl (ri_none hb))]⟩)
  · skip
    rcases hq1 with ⟨_, j, hj0, rfl⟩ | ⟨e, _⟩
    rotate_left
    · exact absurd e c4
    refine lv_iload_n S.1 S.2.1 dX3_same_7 rfl (lv_at hl 2 rfl) ?_
    refine ck_ip (run_S (As := [.int (y)]) (rest := []) S hK hH (kX3_is y) ceX3_is mW350 rfl hl.1 rfl (Nat.le_of_ble_eq_true rfl) dX3_same_8 ⟨rfl, rfl, by decide, by decide⟩ ⟨show 0 + 0 ≤ 0 by omega, show 0 + 0 ≤ 0 by omega⟩) hH (fun r8 H locs hp hH => ?_)
    have hq2 : Hid _ := hp
    clear hp
    refine lv_if_ne (tgt := 18) S.1 S.2.1 dX3_same_11 (by decide) (fun c11 => ?_) (fun c11 => ?_)
    · skip
      rcases hq2 with ⟨_, q1, hq0, rfl⟩ | ⟨e, _⟩
      rotate_left
      · exact absurd e c11
      refine lv_aload_n S.1 S.2.1 dX3_same_18 rfl (lv_at hl 0 rfl) ?_
      refine lv_iload_n S.1 S.2.1 dX3_same_19 rfl (lv_at hl 1 rfl) ?_
      refine lv_iload_n S.1 S.2.1 dX3_same_20 rfl (lv_at hl 2 rfl) ?_
      refine ck_ip (run_V (As := [.int (nI j), .int (nI q1)]) (rest := []) S hK hH (kX3_isSame M j q1 Sl (nI (σ.2.2.1)) (nI (σ.2.2.2.2.2)) cnt big ma gc gh gl m0 m1 m2 m3 m4 (by omega) (by omega) hsl) ceX3_isSame mW440 m0 rfl rfl hl.1 rfl (Nat.le_of_ble_eq_true rfl) dX3_same_21 ⟨rfl, rfl, by decide, by decide⟩ ⟨show 0 + 0 ≤ 0 by omega, show 0 + 0 ≤ 0 by omega⟩) hH (fun r21 H locs hp hH => ?_)
      have hq3 : Hid _ := hp
      clear hp
      refine lv_if_eq (tgt := 31) S.1 S.2.1 dX3_same_24 (by decide) (fun c24 => ?_) (fun c24 => ?_)
      · skip
        rcases hq3 with ⟨e, _⟩ | ⟨_, he⟩
        · rw [e] at c24; exact absurd c24 (by decide)
        rw [hrl j hj0, hrl q1 hq0] at he
        refine lv_iconst (v := nI 0) S.1 S.2.1 dX3_same_31 (by decide) ?_
        exact rt_i S hr hlk hH dX3_same_32 (⟨rfl, rfl, by rw [sSame_ok hj0 hq0, if_neg he]; rfl⟩)
      · skip
        rcases hq3 with ⟨_, he⟩ | ⟨e, _⟩
        rotate_left
        · exact absurd e c24
        rw [hrl j hj0, hrl q1 hq0] at he
        refine lv_iconst (v := nI 1) S.1 S.2.1 dX3_same_27 (by decide) ?_
        refine lv_goto (tgt := 32) S.1 S.2.1 dX3_same_28 (by decide) ?_
        exact rt_i S hr hlk hH dX3_same_32 (⟨rfl, rfl, by rw [sSame_ok hj0 hq0, if_pos he]; rfl⟩)
    · skip
      rcases hq2 with ⟨e, _⟩ | ⟨_, hb⟩
      · rw [e] at c11; exact absurd c11 (by decide)
      refine lv_iconst (v := (-1)) S.1 S.2.1 dX3_same_14 (by decide) ?_
      refine lv_goto (tgt := 32) S.1 S.2.1 dX3_same_15 (by decide) ?_
      exact rt_i S hr hlk hH dX3_same_32 (⟨rfl, rfl, by rw [sSame_bad (Or.inr (ri_none hb))]⟩)

set_option maxHeartbeats 4000000 in
set_option maxRecDepth 100000 in
theorem kX3_value {l : Launch} {G : Gx} {B : Nat} {w : Wm} {n : Nat} (M : Nat) (x v : Int32) (σ : St) (hs : ModS G w M σ) : Met l yX3_value (wsM yX3_value cX3_value 10 (some .long)) ({ frames := 1, cells := 0, slots := 0, locals := 25 } : Room) (Pcx G B w n [.ref (M), .int (x), .int (v)]) (Ql G B (fun r w' n' => w' = w ∧ n' = n ∧ r = sValue σ x v)) 0 0 (FA B) := by
  refine en (by decide) (Nat.le_of_ble_eq_true rfl) ?_
  intro p ev s mm ag bl mt cde S hr hlk hnm hK H hH ls hl
  have hl : lv_has ls 10 [(0, .ref (M)), (1, .int (x)), (2, .int (v))] := hl
  obtain ⟨Sl, cnt, big, ma, gc, gh, gl, fc, fh, fl, nu, f1, f2, f3, f4, m0, m1, m2, m3, m4, m5, m6, m7, m8, mz9, m10, m11, m12, hsl, hmi⟩ := hs
  obtain ⟨hrl, hhl, hhc, hpc, hpt⟩ := id hmi
  refine lv_iload_n S.1 S.2.1 dX3_value_0 rfl (lv_at hl 1 rfl) ?_
  refine ck_ip (run_S (As := [.int (x)]) (rest := []) S hK hH (kX3_is x) ceX3_is mW350 rfl hl.1 rfl (Nat.le_of_ble_eq_true rfl) dX3_value_1 ⟨rfl, rfl, by decide, by decide⟩ ⟨show 0 + 0 ≤ 0 by omega, show 0 + 0 ≤ 0 by omega⟩) hH (fun r1 H locs hp hH => ?_)
  have hq1 : Hid _ := hp
  clear hp
  refine lv_if_ne (tgt := 9) S.1 S.2.1 dX3_value_4 (by decide) (fun c4 => ?_) (fun c4 => ?_)
  · skip
    rcases hq1 with ⟨_, j, hj0, rfl⟩ | ⟨e, _⟩
    rotate_left
    · exact absurd e c4
    obtain ⟨okx, hmx, hsx⟩ := hsl j (by omega)
    obtain ⟨L, hL⟩ : ∃ L, L = Sl j := ⟨_, rfl⟩
    rw [← hL] at okx hmx hsx
    have hlx := okx.2.1
    have hLs : L = σ.1 j := hL.trans (hrl j hj0)
    refine lv_lconst (v := lI 0) S.1 S.2.1 dX3_value_9 (by decide) ?_
    refine tpl (x' := mvL v.toInt64 (L.take 0)) (rfl) ?_
    refine lv_lstore_n (lv' := [(3, .long (mvL v.toInt64 (L.take 0))), (0, .ref (M)), (1, .int (nI j)), (2, .int (v))]) S.1 S.2.1 dX3_value_10 rfl hl (by decide) rfl (fun ls hl => ?_)
    refine lv_bipush (v := nI 60) S.1 S.2.1 dX3_value_11 (by decide) ?_
    refine lv_iload_n S.1 S.2.1 dX3_value_13 rfl (lv_at hl 2 rfl) ?_
    refine lv_imul S.1 S.2.1 dX3_value_14 ?_
    refine tpi (x' := nI (60 * j)) (pk_mul _ _) ?_
    refine lv_istore (lv' := [(5, .int (nI (60 * j))), (3, .long (mvL v.toInt64 (L.take 0))), (0, .ref (M)), (1, .int (nI j)), (2, .int (v))]) S.1 S.2.1 dX3_value_15 hl (by decide) rfl (fun ls hl => ?_)
    refine wlp (P := fun k_ ls H' locs' => ∃ (k : Nat) (vv : Wm), lv_has ls 10 [(0, .ref (M)), (1, .int (nI j)), (2, .int (v)), (3, .long (mvL v.toInt64 (L.take k))), (5, .int (nI (60 * j + k)))] ∧ HS G B vv (n) s H' locs' ∧ vv (M) = some (eO 3 [.ref (M + 1), .ref (M + 2), .ref (M + 3), .ref (M + 4), .int (nI (σ.2.2.1)), .int (nI (σ.2.2.2.2.2)), .ref (M + 5), .ref (M + 6), .ref (M + 7), .ref (M + 8), .ref (M + 9), .int (cnt), .int (big), .ref (M + 10), .ref (M + 11), .ref (M + 12)]) ∧ vv (M + 1) = some (eI G (62) (ma)) ∧ vv (M + 2) = some (eJ G (3720) (gc)) ∧ vv (M + 3) = some (eJ G (3720) (gh)) ∧ vv (M + 4) = some (eJ G (3720) (gl)) ∧ vv (M + 5) = some (eI G (20) (nu)) ∧ vv (M + 6) = some (eI G (20) (f1)) ∧ vv (M + 7) = some (eI G (20) (f2)) ∧ vv (M + 8) = some (eI G (20) (f3)) ∧ vv (M + 9) = some (eI G (20) (f4)) ∧ vv (M + 10) = some (eJ G (3700) (fc)) ∧ vv (M + 11) = some (eJ G (3700) (fh)) ∧ vv (M + 12) = some (eJ G (3700) (fl)) ∧ (vv = w) ∧ (k ≤ L.length) ∧ k_ = L.length - k) ?_ (k0 := L.length - (0)) ⟨0, w, lv_sub hl [2, 3, 4, 1, 0] rfl, hH, m0, m1, m2, m3, m4, m5, m6, m7, m8, mz9, m10, m11, m12, rfl, by omega, rfl⟩
    intro k17 ls H locs hP ih17
    obtain ⟨k, vv, hl, hH, m0, m1, m2, m3, m4, m5, m6, m7, m8, mz9, m10, m11, m12, hvw, hk, hk17⟩ := hP
    refine lv_iload S.1 S.2.1 dX3_value_17 (lv_at hl 4 rfl) ?_
    refine lv_bipush (v := nI 60) S.1 S.2.1 dX3_value_19 (by decide) ?_
    refine lv_iload_n S.1 S.2.1 dX3_value_21 rfl (lv_at hl 1 rfl) ?_
    refine lv_imul S.1 S.2.1 dX3_value_22 ?_
    refine tpi (x' := nI (60 * j)) (pk_mul _ _) ?_
    refine lv_aload_n S.1 S.2.1 dX3_value_23 rfl (lv_at hl 0 rfl) ?_
    refine gfX3_9 S hK hH m0 dX3_value_24 ?_
    refine lv_iload_n S.1 S.2.1 dX3_value_27 rfl (lv_at hl 1 rfl) ?_
    refine ald_i S hK hH m1 (by omega) (by omega) dX3_value_28 ?_
    refine tpi (x' := nI (L.length)) (hmx) ?_
    refine lv_iadd S.1 S.2.1 dX3_value_29 ?_
    refine tpi (x' := nI (60 * j + L.length)) (nI_add _ _) ?_
    refine bn_ge (tgt := 95) S dX3_value_30 (by decide) (by omega) (fun c30 => ?_) (fun c30 => ?_)
    · skip
      refine lv_lload_n S.1 S.2.1 dX3_value_95 rfl (lv_at hl 3 rfl) ?_
      exact rt_l S hr hlk hH dX3_value_96 (⟨hvw, rfl, by rw [sValue, ri_some hj0]; show _ = hvL v.toInt64 (σ.1 j) 0 (hv0 (σ.1 j)); rw [← hLs, List.take_of_length_le (by omega)]; exact (mv_eq okx).symm⟩)
    · skip
      have ck : k < L.length := by omega
      have hk3 := hsx k ck
      have b1 : hiC (cd L k) < 800000000000000000 := cv8_lt _
      have b2 : loC (cd L k) < 800000000000000000 := cv8_lt _
      have b5 := bsm_le (hiC (cd L k)) (loC (cd L k)) 8
      refine lv_aload_n S.1 S.2.1 dX3_value_33 rfl (lv_at hl 0 rfl) ?_
      refine gfX3_13 S hK hH m0 dX3_value_34 ?_
      refine lv_iload S.1 S.2.1 dX3_value_37 (lv_at hl 4 rfl) ?_
      refine ald_l S hK hH m2 (by omega) (by omega) dX3_value_39 ?_
      refine tpl (x' := lI (cf L k)) (hk3.1) ?_
      refine tpl (x' := lI (cf L k) * ipw v.toInt64 0) (by simp [ipw]) ?_
      refine lv_lstore (lv' := [(6, .long (lI (cf L k) * ipw v.toInt64 0)), (0, .ref (M)), (1, .int (nI j)), (2, .int (v)), (3, .long (mvL v.toInt64 (L.take k))), (5, .int (nI (60 * j + k)))]) S.1 S.2.1 dX3_value_40 hl (by decide) rfl (fun ls hl => ?_)
      refine lv_aload_n S.1 S.2.1 dX3_value_42 rfl (lv_at hl 1 rfl) ?_
      refine gfX3_17 S hK hH m0 dX3_value_43 ?_
      refine lv_iload S.1 S.2.1 dX3_value_46 (lv_at hl 5 rfl) ?_
      refine ald_l S hK hH m3 (by omega) (by omega) dX3_value_48 ?_
      refine tpl (x' := lN (hiC (cd L k))) (hk3.2.1) ?_
      refine lv_aload_n S.1 S.2.1 dX3_value_49 rfl (lv_at hl 1 rfl) ?_
      refine gfX3_20 S hK hH m0 dX3_value_50 ?_
      refine lv_iload S.1 S.2.1 dX3_value_53 (lv_at hl 5 rfl) ?_
      refine ald_l S hK hH m4 (by omega) (by omega) dX3_value_55 ?_
      refine tpl (x' := lN (loC (cd L k))) (hk3.2.2) ?_
      refine ck_ip (run_S (As := [.long (lN (hiC (cd L k))), .long (lN (loC (cd L k)))]) (rest := []) S hK hH (kX3_degree (hiC (cd L k)) (loC (cd L k)) (by omega) (by omega)) ceX3_degree mW379 rfl hl.1 rfl (Nat.le_of_ble_eq_true rfl) dX3_value_56 ⟨rfl, rfl, by decide, by decide⟩ ⟨show 0 + 0 ≤ 0 by omega, show 0 + 0 ≤ 0 by omega⟩) hH (fun r56 H locs hp hH => ?_)
      obtain rfl := hp
      refine lv_istore (lv' := [(8, .int (nI (bsm (hiC (cd L k)) (loC (cd L k)) 8))), (6, .long (lI (cf L k) * ipw v.toInt64 0)), (0, .ref (M)), (1, .int (nI j)), (2, .int (v)), (3, .long (mvL v.toInt64 (L.take k))), (5, .int (nI (60 * j + k)))]) S.1 S.2.1 dX3_value_59 hl (by decide) rfl (fun ls hl => ?_)
      refine lv_iconst (v := nI 0) S.1 S.2.1 dX3_value_61 (by decide) ?_
      refine lv_istore (lv' := [(9, .int (nI 0)), (8, .int (nI (bsm (hiC (cd L k)) (loC (cd L k)) 8))), (6, .long (lI (cf L k) * ipw v.toInt64 0)), (0, .ref (M)), (1, .int (nI j)), (2, .int (v)), (3, .long (mvL v.toInt64 (L.take k))), (5, .int (nI (60 * j + k)))]) S.1 S.2.1 dX3_value_62 hl (by decide) rfl (fun ls hl => ?_)
      refine wlp (P := fun k_ ls H' locs' => ∃ (i : Nat), lv_has ls 10 [(0, .ref (M)), (1, .int (nI j)), (2, .int (v)), (3, .long (mvL v.toInt64 (L.take k))), (5, .int (nI (60 * j + k))), (6, .long (lI (cf L k) * ipw v.toInt64 i)), (8, .int (nI (bsm (hiC (cd L k)) (loC (cd L k)) 8))), (9, .int (nI i))] ∧ (H = H' ∧ locs = locs') ∧ (i ≤ bsm (hiC (cd L k)) (loC (cd L k)) 8) ∧ k_ = bsm (hiC (cd L k)) (loC (cd L k)) 8 - i) ?_ (k0 := bsm (hiC (cd L k)) (loC (cd L k)) 8 - (0)) ⟨0, lv_sub hl [3, 4, 5, 6, 7, 2, 1, 0] rfl, ⟨rfl, rfl⟩, by omega, rfl⟩
      intro k64 ls H' locs' hP ih64
      obtain ⟨i, hl, ⟨rfl, rfl⟩, hi, hk64⟩ := hP
      refine lv_iload S.1 S.2.1 dX3_value_64 (lv_at hl 7 rfl) ?_
      refine lv_iload S.1 S.2.1 dX3_value_66 (lv_at hl 6 rfl) ?_
      refine bn_ge (tgt := 84) S dX3_value_68 (by decide) (by omega) (fun c68 => ?_) (fun c68 => ?_)
      · skip
        refine lv_lload_n S.1 S.2.1 dX3_value_84 rfl (lv_at hl 3 rfl) ?_
        refine lv_lload S.1 S.2.1 dX3_value_85 (lv_at hl 5 rfl) ?_
        refine lv_ladd S.1 S.2.1 dX3_value_87 ?_
        refine tpl (x' := mvL v.toInt64 (L.take (k + 1))) (mv_t ck okx (by omega)) ?_
        refine lv_lstore_n (lv' := [(3, .long (mvL v.toInt64 (L.take (k + 1)))), (0, .ref (M)), (1, .int (nI j)), (2, .int (v)), (5, .int (nI (60 * j + k))), (6, .long (lI (cf L k) * ipw v.toInt64 i)), (8, .int (nI (bsm (hiC (cd L k)) (loC (cd L k)) 8))), (9, .int (nI i))]) S.1 S.2.1 dX3_value_88 rfl hl (by decide) rfl (fun ls hl => ?_)
        refine lv_iinc (v := nI (60 * j + k + 1)) (lv' := [(5, .int (nI (60 * j + k + 1))), (3, .long (mvL v.toInt64 (L.take (k + 1)))), (0, .ref (M)), (1, .int (nI j)), (2, .int (v)), (6, .long (lI (cf L k) * ipw v.toInt64 i)), (8, .int (nI (bsm (hiC (cd L k)) (loC (cd L k)) 8))), (9, .int (nI i))]) S.1 S.2.1 dX3_value_89 hl (k := 4) rfl (nI_inc _ 1) (by decide) rfl (fun ls hl => ?_)
        refine lv_goto (tgt := 17) S.1 S.2.1 dX3_value_92 (by decide) ?_
        exact ih17 _ _ _ _ (by omega) ⟨k + 1, vv, lv_sub hl [2, 3, 4, 1, 0] rfl, hH, m0, m1, m2, m3, m4, m5, m6, m7, m8, mz9, m10, m11, m12, hvw, by omega, rfl⟩
      · skip
        refine lv_lload S.1 S.2.1 dX3_value_71 (lv_at hl 5 rfl) ?_
        refine lv_iload_n S.1 S.2.1 dX3_value_73 rfl (lv_at hl 2 rfl) ?_
        refine lv_i2l (v := (v).toInt64) S.1 S.2.1 dX3_value_74 (rfl) ?_
        refine lv_lmul S.1 S.2.1 dX3_value_75 ?_
        refine tpl (x' := lI (cf L k) * ipw v.toInt64 (i + 1)) (mv_s) ?_
        refine lv_lstore (lv' := [(6, .long (lI (cf L k) * ipw v.toInt64 (i + 1))), (0, .ref (M)), (1, .int (nI j)), (2, .int (v)), (3, .long (mvL v.toInt64 (L.take k))), (5, .int (nI (60 * j + k))), (8, .int (nI (bsm (hiC (cd L k)) (loC (cd L k)) 8))), (9, .int (nI i))]) S.1 S.2.1 dX3_value_76 hl (by decide) rfl (fun ls hl => ?_)
        refine lv_iinc (v := nI (i + 1)) (lv' := [(9, .int (nI (i + 1))), (6, .long (lI (cf L k) * ipw v.toInt64 (i + 1))), (0, .ref (M)), (1, .int (nI j)), (2, .int (v)), (3, .long (mvL v.toInt64 (L.take k))), (5, .int (nI (60 * j + k))), (8, .int (nI (bsm (hiC (cd L k)) (loC (cd L k)) 8)))]) S.1 S.2.1 dX3_value_78 hl (k := 7) rfl (nI_inc _ 1) (by decide) rfl (fun ls hl => ?_)
        refine lv_goto (tgt := 64) S.1 S.2.1 dX3_value_81 (by decide) ?_
        exact ih64 _ _ _ _ (by omega) ⟨i + 1, lv_sub hl [2, 3, 4, 5, 6, 1, 7, 0] rfl, ⟨rfl, rfl⟩, by omega, rfl⟩
  · skip
    rcases hq1 with ⟨e, _⟩ | ⟨_, hb⟩
    · rw [e] at c4; exact absurd c4 (by decide)
    refine lv_lconst (v := lI 0) S.1 S.2.1 dX3_value_7 (by decide) ?_
    exact rt_l S hr hlk hH dX3_value_8 (⟨rfl, rfl, by rw [sValue, ri_none hb]; rfl⟩)

set_option maxHeartbeats 4000000 in
set_option maxRecDepth 100000 in
theorem kX3_init {l : Launch} {G : Gx} {B : Nat} {w : Wm} {n : Nat} (M : Nat) (m0 : w M = some (eO 3 [.null, .null, .null, .null, .int (0), .int (0), .null, .null, .null, .null, .null, .int (0), .int (0), .null, .null, .null])) (hn : n = M + 1) : Met l yX3_init (wsM yX3_init cX3_init 1 none) ({ frames := 1, cells := 12, slots := 22582, locals := 20 } : Room) (Pcx G B w n [.ref (M)]) (Qv G B (fun w' n' => n' = M + 13 ∧ (∀ b, (b < M ∨ M + 13 ≤ b) → w' b = w b) ∧ ModS G w' M st0)) 12 22582 (FA B) := by
  refine en (by decide) (Nat.le_of_ble_eq_true rfl) ?_
  intro p ev s mm ag bl mt cde S hr hlk hnm hK H hH ls hl
  have hl : lv_has ls 1 [(0, .ref (M))] := hl
  subst hn
  have hF : ∀ b, b < M ∨ M + 13 ≤ b → w b = w b := fun _ _ => rfl
  refine lv_aload_n S.1 S.2.1 dX3_init_0 rfl (lv_at hl 0 rfl) ?_
  refine W.objInit S.1 S.2.1 S.2.2.2.1 (S.2.2.2.2 _ mW296) (S.2.2.2.2 _ mW12) (S.2.2.2.2 _ mW13) rfl (hl.1.trans S.2.2.1.symm) rfl dX3_init_1 (by decide) (Nat.le_of_ble_eq_true rfl) ?_
  refine W.eq (g2 := F0 mm 4 ls []) rfl ?_
  refine lv_aload_n S.1 S.2.1 dX3_init_4 rfl (lv_at hl 0 rfl) ?_
  refine lv_bipush (v := nI 62) S.1 S.2.1 dX3_init_5 (by decide) ?_
  refine nwa_i S hK hH mW47 (by omega) (show 0 + 1 ≤ 12 by omega) (show 0 + (62) ≤ 22582 by omega) dX3_init_7 (fun w1 H m1 fr hH => ?_)
  replace m0 := (fr (M) (by omega)).trans m0
  replace hF : ∀ b, b < M ∨ M + 13 ≤ b → w1 b = w b := fun b hb => (fr b (by omega)).trans (hF b hb)
  refine pfX3_9 S hK hH m0 hnm dX3_init_9 (fun w3 H locs m0 fr hH => ?_)
  replace m1 := (fr (M + 1) (by omega)).trans m1
  replace hF : ∀ b, b < M ∨ M + 13 ≤ b → w3 b = w b := fun b hb => (fr b (by omega)).trans (hF b hb)
  refine lv_aload_n S.1 S.2.1 dX3_init_12 rfl (lv_at hl 0 rfl) ?_
  refine lv_sipush (v := nI 3720) S.1 S.2.1 dX3_init_13 (by decide) ?_
  refine nwa_l S hK hH mW46 (by omega) (show (0 + 1) + 1 ≤ 12 by omega) (show (0 + (62)) + (3720) ≤ 22582 by omega) dX3_init_16 (fun w4 H m2 fr hH => ?_)
  replace m0 := (fr (M) (by omega)).trans m0
  replace m1 := (fr (M + 1) (by omega)).trans m1
  replace hF : ∀ b, b < M ∨ M + 13 ≤ b → w4 b = w b := fun b hb => (fr b (by omega)).trans (hF b hb)
  refine pfX3_13 S hK hH m0 hnm dX3_init_18 (fun w6 H locs m0 fr hH => ?_)
  replace m1 := (fr (M + 1) (by omega)).trans m1
  replace m2 := (fr (M + 2) (by omega)).trans m2
  replace hF : ∀ b, b < M ∨ M + 13 ≤ b → w6 b = w b := fun b hb => (fr b (by omega)).trans (hF b hb)
  refine lv_aload_n S.1 S.2.1 dX3_init_21 rfl (lv_at hl 0 rfl) ?_
  refine lv_sipush (v := nI 3720) S.1 S.2.1 dX3_init_22 (by decide) ?_
  refine nwa_l S hK hH mW46 (by omega) (show ((0 + 1) + 1) + 1 ≤ 12 by omega) (show ((0 + (62)) + (3720)) + (3720) ≤ 22582 by omega) dX3_init_25 (fun w7 H m3 fr hH => ?_)
  replace m0 := (fr (M) (by omega)).trans m0
  replace m1 := (fr (M + 1) (by omega)).trans m1
  replace m2 := (fr (M + 2) (by omega)).trans m2
  replace hF : ∀ b, b < M ∨ M + 13 ≤ b → w7 b = w b := fun b hb => (fr b (by omega)).trans (hF b hb)
  refine pfX3_17 S hK hH m0 hnm dX3_init_27 (fun w9 H locs m0 fr hH => ?_)
  replace m1 := (fr (M + 1) (by omega)).trans m1
  replace m2 := (fr (M + 2) (by omega)).trans m2
  replace m3 := (fr (M + 3) (by omega)).trans m3
  replace hF : ∀ b, b < M ∨ M + 13 ≤ b → w9 b = w b := fun b hb => (fr b (by omega)).trans (hF b hb)
  refine lv_aload_n S.1 S.2.1 dX3_init_30 rfl (lv_at hl 0 rfl) ?_
  refine lv_sipush (v := nI 3720) S.1 S.2.1 dX3_init_31 (by decide) ?_
  refine nwa_l S hK hH mW46 (by omega) (show (((0 + 1) + 1) + 1) + 1 ≤ 12 by omega) (show (((0 + (62)) + (3720)) + (3720)) + (3720) ≤ 22582 by omega) dX3_init_34 (fun w10 H m4 fr hH => ?_)
  replace m0 := (fr (M) (by omega)).trans m0
  replace m1 := (fr (M + 1) (by omega)).trans m1
  replace m2 := (fr (M + 2) (by omega)).trans m2
  replace m3 := (fr (M + 3) (by omega)).trans m3
  replace hF : ∀ b, b < M ∨ M + 13 ≤ b → w10 b = w b := fun b hb => (fr b (by omega)).trans (hF b hb)
  refine pfX3_20 S hK hH m0 hnm dX3_init_36 (fun w12 H locs m0 fr hH => ?_)
  replace m1 := (fr (M + 1) (by omega)).trans m1
  replace m2 := (fr (M + 2) (by omega)).trans m2
  replace m3 := (fr (M + 3) (by omega)).trans m3
  replace m4 := (fr (M + 4) (by omega)).trans m4
  replace hF : ∀ b, b < M ∨ M + 13 ≤ b → w12 b = w b := fun b hb => (fr b (by omega)).trans (hF b hb)
  refine lv_aload_n S.1 S.2.1 dX3_init_39 rfl (lv_at hl 0 rfl) ?_
  refine lv_bipush (v := nI 20) S.1 S.2.1 dX3_init_40 (by decide) ?_
  refine nwa_i S hK hH mW47 (by omega) (show ((((0 + 1) + 1) + 1) + 1) + 1 ≤ 12 by omega) (show ((((0 + (62)) + (3720)) + (3720)) + (3720)) + (20) ≤ 22582 by omega) dX3_init_42 (fun w13 H m5 fr hH => ?_)
  replace m0 := (fr (M) (by omega)).trans m0
  replace m1 := (fr (M + 1) (by omega)).trans m1
  replace m2 := (fr (M + 2) (by omega)).trans m2
  replace m3 := (fr (M + 3) (by omega)).trans m3
  replace m4 := (fr (M + 4) (by omega)).trans m4
  replace hF : ∀ b, b < M ∨ M + 13 ≤ b → w13 b = w b := fun b hb => (fr b (by omega)).trans (hF b hb)
  refine pfX3_23 S hK hH m0 hnm dX3_init_44 (fun w15 H locs m0 fr hH => ?_)
  replace m1 := (fr (M + 1) (by omega)).trans m1
  replace m2 := (fr (M + 2) (by omega)).trans m2
  replace m3 := (fr (M + 3) (by omega)).trans m3
  replace m4 := (fr (M + 4) (by omega)).trans m4
  replace m5 := (fr (M + 5) (by omega)).trans m5
  replace hF : ∀ b, b < M ∨ M + 13 ≤ b → w15 b = w b := fun b hb => (fr b (by omega)).trans (hF b hb)
  refine lv_aload_n S.1 S.2.1 dX3_init_47 rfl (lv_at hl 0 rfl) ?_
  refine lv_bipush (v := nI 20) S.1 S.2.1 dX3_init_48 (by decide) ?_
  refine nwa_i S hK hH mW47 (by omega) (show (((((0 + 1) + 1) + 1) + 1) + 1) + 1 ≤ 12 by omega) (show (((((0 + (62)) + (3720)) + (3720)) + (3720)) + (20)) + (20) ≤ 22582 by omega) dX3_init_50 (fun w16 H m6 fr hH => ?_)
  replace m0 := (fr (M) (by omega)).trans m0
  replace m1 := (fr (M + 1) (by omega)).trans m1
  replace m2 := (fr (M + 2) (by omega)).trans m2
  replace m3 := (fr (M + 3) (by omega)).trans m3
  replace m4 := (fr (M + 4) (by omega)).trans m4
  replace m5 := (fr (M + 5) (by omega)).trans m5
  replace hF : ∀ b, b < M ∨ M + 13 ≤ b → w16 b = w b := fun b hb => (fr b (by omega)).trans (hF b hb)
  refine pfX3_26 S hK hH m0 hnm dX3_init_52 (fun w18 H locs m0 fr hH => ?_)
  replace m1 := (fr (M + 1) (by omega)).trans m1
  replace m2 := (fr (M + 2) (by omega)).trans m2
  replace m3 := (fr (M + 3) (by omega)).trans m3
  replace m4 := (fr (M + 4) (by omega)).trans m4
  replace m5 := (fr (M + 5) (by omega)).trans m5
  replace m6 := (fr (M + 6) (by omega)).trans m6
  replace hF : ∀ b, b < M ∨ M + 13 ≤ b → w18 b = w b := fun b hb => (fr b (by omega)).trans (hF b hb)
  refine lv_aload_n S.1 S.2.1 dX3_init_55 rfl (lv_at hl 0 rfl) ?_
  refine lv_bipush (v := nI 20) S.1 S.2.1 dX3_init_56 (by decide) ?_
  refine nwa_i S hK hH mW47 (by omega) (show ((((((0 + 1) + 1) + 1) + 1) + 1) + 1) + 1 ≤ 12 by omega) (show ((((((0 + (62)) + (3720)) + (3720)) + (3720)) + (20)) + (20)) + (20) ≤ 22582 by omega) dX3_init_58 (fun w19 H m7 fr hH => ?_)
  replace m0 := (fr (M) (by omega)).trans m0
  replace m1 := (fr (M + 1) (by omega)).trans m1
  replace m2 := (fr (M + 2) (by omega)).trans m2
  replace m3 := (fr (M + 3) (by omega)).trans m3
  replace m4 := (fr (M + 4) (by omega)).trans m4
  replace m5 := (fr (M + 5) (by omega)).trans m5
  replace m6 := (fr (M + 6) (by omega)).trans m6
  replace hF : ∀ b, b < M ∨ M + 13 ≤ b → w19 b = w b := fun b hb => (fr b (by omega)).trans (hF b hb)
  refine pfX3_29 S hK hH m0 hnm dX3_init_60 (fun w21 H locs m0 fr hH => ?_)
  replace m1 := (fr (M + 1) (by omega)).trans m1
  replace m2 := (fr (M + 2) (by omega)).trans m2
  replace m3 := (fr (M + 3) (by omega)).trans m3
  replace m4 := (fr (M + 4) (by omega)).trans m4
  replace m5 := (fr (M + 5) (by omega)).trans m5
  replace m6 := (fr (M + 6) (by omega)).trans m6
  replace m7 := (fr (M + 7) (by omega)).trans m7
  replace hF : ∀ b, b < M ∨ M + 13 ≤ b → w21 b = w b := fun b hb => (fr b (by omega)).trans (hF b hb)
  refine lv_aload_n S.1 S.2.1 dX3_init_63 rfl (lv_at hl 0 rfl) ?_
  refine lv_bipush (v := nI 20) S.1 S.2.1 dX3_init_64 (by decide) ?_
  refine nwa_i S hK hH mW47 (by omega) (show (((((((0 + 1) + 1) + 1) + 1) + 1) + 1) + 1) + 1 ≤ 12 by omega) (show (((((((0 + (62)) + (3720)) + (3720)) + (3720)) + (20)) + (20)) + (20)) + (20) ≤ 22582 by omega) dX3_init_66 (fun w22 H m8 fr hH => ?_)
  replace m0 := (fr (M) (by omega)).trans m0
  replace m1 := (fr (M + 1) (by omega)).trans m1
  replace m2 := (fr (M + 2) (by omega)).trans m2
  replace m3 := (fr (M + 3) (by omega)).trans m3
  replace m4 := (fr (M + 4) (by omega)).trans m4
  replace m5 := (fr (M + 5) (by omega)).trans m5
  replace m6 := (fr (M + 6) (by omega)).trans m6
  replace m7 := (fr (M + 7) (by omega)).trans m7
  replace hF : ∀ b, b < M ∨ M + 13 ≤ b → w22 b = w b := fun b hb => (fr b (by omega)).trans (hF b hb)
  refine pfX3_32 S hK hH m0 hnm dX3_init_68 (fun w24 H locs m0 fr hH => ?_)
  replace m1 := (fr (M + 1) (by omega)).trans m1
  replace m2 := (fr (M + 2) (by omega)).trans m2
  replace m3 := (fr (M + 3) (by omega)).trans m3
  replace m4 := (fr (M + 4) (by omega)).trans m4
  replace m5 := (fr (M + 5) (by omega)).trans m5
  replace m6 := (fr (M + 6) (by omega)).trans m6
  replace m7 := (fr (M + 7) (by omega)).trans m7
  replace m8 := (fr (M + 8) (by omega)).trans m8
  replace hF : ∀ b, b < M ∨ M + 13 ≤ b → w24 b = w b := fun b hb => (fr b (by omega)).trans (hF b hb)
  refine lv_aload_n S.1 S.2.1 dX3_init_71 rfl (lv_at hl 0 rfl) ?_
  refine lv_bipush (v := nI 20) S.1 S.2.1 dX3_init_72 (by decide) ?_
  refine nwa_i S hK hH mW47 (by omega) (show ((((((((0 + 1) + 1) + 1) + 1) + 1) + 1) + 1) + 1) + 1 ≤ 12 by omega) (show ((((((((0 + (62)) + (3720)) + (3720)) + (3720)) + (20)) + (20)) + (20)) + (20)) + (20) ≤ 22582 by omega) dX3_init_74 (fun w25 H mz9 fr hH => ?_)
  replace m0 := (fr (M) (by omega)).trans m0
  replace m1 := (fr (M + 1) (by omega)).trans m1
  replace m2 := (fr (M + 2) (by omega)).trans m2
  replace m3 := (fr (M + 3) (by omega)).trans m3
  replace m4 := (fr (M + 4) (by omega)).trans m4
  replace m5 := (fr (M + 5) (by omega)).trans m5
  replace m6 := (fr (M + 6) (by omega)).trans m6
  replace m7 := (fr (M + 7) (by omega)).trans m7
  replace m8 := (fr (M + 8) (by omega)).trans m8
  replace hF : ∀ b, b < M ∨ M + 13 ≤ b → w25 b = w b := fun b hb => (fr b (by omega)).trans (hF b hb)
  refine pfX3_35 S hK hH m0 hnm dX3_init_76 (fun w27 H locs m0 fr hH => ?_)
  replace m1 := (fr (M + 1) (by omega)).trans m1
  replace m2 := (fr (M + 2) (by omega)).trans m2
  replace m3 := (fr (M + 3) (by omega)).trans m3
  replace m4 := (fr (M + 4) (by omega)).trans m4
  replace m5 := (fr (M + 5) (by omega)).trans m5
  replace m6 := (fr (M + 6) (by omega)).trans m6
  replace m7 := (fr (M + 7) (by omega)).trans m7
  replace m8 := (fr (M + 8) (by omega)).trans m8
  replace mz9 := (fr (M + 9) (by omega)).trans mz9
  replace hF : ∀ b, b < M ∨ M + 13 ≤ b → w27 b = w b := fun b hb => (fr b (by omega)).trans (hF b hb)
  refine lv_aload_n S.1 S.2.1 dX3_init_79 rfl (lv_at hl 0 rfl) ?_
  refine lv_sipush (v := nI 3700) S.1 S.2.1 dX3_init_80 (by decide) ?_
  refine nwa_l S hK hH mW46 (by omega) (show (((((((((0 + 1) + 1) + 1) + 1) + 1) + 1) + 1) + 1) + 1) + 1 ≤ 12 by omega) (show (((((((((0 + (62)) + (3720)) + (3720)) + (3720)) + (20)) + (20)) + (20)) + (20)) + (20)) + (3700) ≤ 22582 by omega) dX3_init_83 (fun w28 H m10 fr hH => ?_)
  replace m0 := (fr (M) (by omega)).trans m0
  replace m1 := (fr (M + 1) (by omega)).trans m1
  replace m2 := (fr (M + 2) (by omega)).trans m2
  replace m3 := (fr (M + 3) (by omega)).trans m3
  replace m4 := (fr (M + 4) (by omega)).trans m4
  replace m5 := (fr (M + 5) (by omega)).trans m5
  replace m6 := (fr (M + 6) (by omega)).trans m6
  replace m7 := (fr (M + 7) (by omega)).trans m7
  replace m8 := (fr (M + 8) (by omega)).trans m8
  replace mz9 := (fr (M + 9) (by omega)).trans mz9
  replace hF : ∀ b, b < M ∨ M + 13 ≤ b → w28 b = w b := fun b hb => (fr b (by omega)).trans (hF b hb)
  refine pfX3_38 S hK hH m0 hnm dX3_init_85 (fun w30 H locs m0 fr hH => ?_)
  replace m1 := (fr (M + 1) (by omega)).trans m1
  replace m2 := (fr (M + 2) (by omega)).trans m2
  replace m3 := (fr (M + 3) (by omega)).trans m3
  replace m4 := (fr (M + 4) (by omega)).trans m4
  replace m5 := (fr (M + 5) (by omega)).trans m5
  replace m6 := (fr (M + 6) (by omega)).trans m6
  replace m7 := (fr (M + 7) (by omega)).trans m7
  replace m8 := (fr (M + 8) (by omega)).trans m8
  replace mz9 := (fr (M + 9) (by omega)).trans mz9
  replace m10 := (fr (M + 10) (by omega)).trans m10
  replace hF : ∀ b, b < M ∨ M + 13 ≤ b → w30 b = w b := fun b hb => (fr b (by omega)).trans (hF b hb)
  refine lv_aload_n S.1 S.2.1 dX3_init_88 rfl (lv_at hl 0 rfl) ?_
  refine lv_sipush (v := nI 3700) S.1 S.2.1 dX3_init_89 (by decide) ?_
  refine nwa_l S hK hH mW46 (by omega) (show ((((((((((0 + 1) + 1) + 1) + 1) + 1) + 1) + 1) + 1) + 1) + 1) + 1 ≤ 12 by omega) (show ((((((((((0 + (62)) + (3720)) + (3720)) + (3720)) + (20)) + (20)) + (20)) + (20)) + (20)) + (3700)) + (3700) ≤ 22582 by omega) dX3_init_92 (fun w31 H m11 fr hH => ?_)
  replace m0 := (fr (M) (by omega)).trans m0
  replace m1 := (fr (M + 1) (by omega)).trans m1
  replace m2 := (fr (M + 2) (by omega)).trans m2
  replace m3 := (fr (M + 3) (by omega)).trans m3
  replace m4 := (fr (M + 4) (by omega)).trans m4
  replace m5 := (fr (M + 5) (by omega)).trans m5
  replace m6 := (fr (M + 6) (by omega)).trans m6
  replace m7 := (fr (M + 7) (by omega)).trans m7
  replace m8 := (fr (M + 8) (by omega)).trans m8
  replace mz9 := (fr (M + 9) (by omega)).trans mz9
  replace m10 := (fr (M + 10) (by omega)).trans m10
  replace hF : ∀ b, b < M ∨ M + 13 ≤ b → w31 b = w b := fun b hb => (fr b (by omega)).trans (hF b hb)
  refine pfX3_41 S hK hH m0 hnm dX3_init_94 (fun w33 H locs m0 fr hH => ?_)
  replace m1 := (fr (M + 1) (by omega)).trans m1
  replace m2 := (fr (M + 2) (by omega)).trans m2
  replace m3 := (fr (M + 3) (by omega)).trans m3
  replace m4 := (fr (M + 4) (by omega)).trans m4
  replace m5 := (fr (M + 5) (by omega)).trans m5
  replace m6 := (fr (M + 6) (by omega)).trans m6
  replace m7 := (fr (M + 7) (by omega)).trans m7
  replace m8 := (fr (M + 8) (by omega)).trans m8
  replace mz9 := (fr (M + 9) (by omega)).trans mz9
  replace m10 := (fr (M + 10) (by omega)).trans m10
  replace m11 := (fr (M + 11) (by omega)).trans m11
  replace hF : ∀ b, b < M ∨ M + 13 ≤ b → w33 b = w b := fun b hb => (fr b (by omega)).trans (hF b hb)
  refine lv_aload_n S.1 S.2.1 dX3_init_97 rfl (lv_at hl 0 rfl) ?_
  refine lv_sipush (v := nI 3700) S.1 S.2.1 dX3_init_98 (by decide) ?_
  refine nwa_l S hK hH mW46 (by omega) (show (((((((((((0 + 1) + 1) + 1) + 1) + 1) + 1) + 1) + 1) + 1) + 1) + 1) + 1 ≤ 12 by omega) (show (((((((((((0 + (62)) + (3720)) + (3720)) + (3720)) + (20)) + (20)) + (20)) + (20)) + (20)) + (3700)) + (3700)) + (3700) ≤ 22582 by omega) dX3_init_101 (fun w34 H m12 fr hH => ?_)
  replace m0 := (fr (M) (by omega)).trans m0
  replace m1 := (fr (M + 1) (by omega)).trans m1
  replace m2 := (fr (M + 2) (by omega)).trans m2
  replace m3 := (fr (M + 3) (by omega)).trans m3
  replace m4 := (fr (M + 4) (by omega)).trans m4
  replace m5 := (fr (M + 5) (by omega)).trans m5
  replace m6 := (fr (M + 6) (by omega)).trans m6
  replace m7 := (fr (M + 7) (by omega)).trans m7
  replace m8 := (fr (M + 8) (by omega)).trans m8
  replace mz9 := (fr (M + 9) (by omega)).trans mz9
  replace m10 := (fr (M + 10) (by omega)).trans m10
  replace m11 := (fr (M + 11) (by omega)).trans m11
  replace hF : ∀ b, b < M ∨ M + 13 ≤ b → w34 b = w b := fun b hb => (fr b (by omega)).trans (hF b hb)
  refine pfX3_44 S hK hH m0 hnm dX3_init_103 (fun w36 H locs m0 fr hH => ?_)
  replace m1 := (fr (M + 1) (by omega)).trans m1
  replace m2 := (fr (M + 2) (by omega)).trans m2
  replace m3 := (fr (M + 3) (by omega)).trans m3
  replace m4 := (fr (M + 4) (by omega)).trans m4
  replace m5 := (fr (M + 5) (by omega)).trans m5
  replace m6 := (fr (M + 6) (by omega)).trans m6
  replace m7 := (fr (M + 7) (by omega)).trans m7
  replace m8 := (fr (M + 8) (by omega)).trans m8
  replace mz9 := (fr (M + 9) (by omega)).trans mz9
  replace m10 := (fr (M + 10) (by omega)).trans m10
  replace m11 := (fr (M + 11) (by omega)).trans m11
  replace m12 := (fr (M + 12) (by omega)).trans m12
  replace hF : ∀ b, b < M ∨ M + 13 ≤ b → w36 b = w b := fun b hb => (fr b (by omega)).trans (hF b hb)
  refine W.widen (k := 12) (n := 22582) (by omega) (by omega) ?_
  exact rt_v S hr hlk hH dX3_init_106 (⟨rfl, hF, (fun _ => []), _, _, _, _, _, _, _, _, _, _, _, _, _, _, m0, m1, m2, m3, m4, m5, m6, m7, m8, mz9, m10, m11, m12, fun z _ => ⟨okP_nil, rfl, fun j h => absurd h (Nat.not_lt_zero j)⟩, fun _ _ => rfl, fun _ _ => rfl, Nat.zero_le _, Nat.zero_le _, fun i h => absurd h (Nat.not_lt_zero i)⟩)

set_option maxHeartbeats 4000000 in
set_option maxRecDepth 100000 in
theorem kX3_put {l : Launch} {G : Gx} {B : Nat} {w : Wm} {n : Nat} (M : Nat) (x a : Int32) (σ : St) (hs : ModS G w M σ) : Met l yX3_put (wsM yX3_put cX3_put 7 (some .int)) ({ frames := 4, cells := 0, slots := 0, locals := 103 } : Room) (Pcx G B w n [.ref (M), .int (x), .int (a)]) (Qi G B (fun r w' n' => n' = n ∧ (∀ b, (b < M ∨ M + 13 ≤ b) → w' b = w b) ∧ r = (sPut σ x a).1 ∧ ModS G w' M (sPut σ x a).2)) 0 0 (FA B) := by
  refine en (by decide) (Nat.le_of_ble_eq_true rfl) ?_
  intro p ev s mm ag bl mt cde S hr hlk hnm hK H hH ls hl
  have hl : lv_has ls 7 [(0, .ref (M)), (1, .int (x)), (2, .int (a))] := hl
  obtain ⟨Sl, cnt, big, ma, gc, gh, gl, fc, fh, fl, nu, f1, f2, f3, f4, m0, m1, m2, m3, m4, m5, m6, m7, m8, mz9, m10, m11, m12, hsl, hmi⟩ := hs
  obtain ⟨hrl, hhl, hhc, hpc, hpt⟩ := id hmi
  obtain ⟨S0, hS0⟩ : ∃ S0 : Nat → PL, ∀ i, i < 56 → S0 i = Sl i := ⟨Sl, fun _ _ => rfl⟩
  have hF : ∀ b, b < M ∨ M + 13 ≤ b → w b = w b := fun _ _ => rfl
  refine lv_iload_n S.1 S.2.1 dX3_put_0 rfl (lv_at hl 1 rfl) ?_
  refine ck_ip (run_S (As := [.int (x)]) (rest := []) S hK hH (kX3_is x) ceX3_is mW350 rfl hl.1 rfl (Nat.le_of_ble_eq_true rfl) dX3_put_1 ⟨rfl, rfl, by decide, by decide⟩ ⟨show 0 + 0 ≤ 0 by omega, show 0 + 0 ≤ 0 by omega⟩) hH (fun r1 H locs hp hH => ?_)
  have hq1 : Hid _ := hp
  clear hp
  refine lv_if_eq (tgt := 14) S.1 S.2.1 dX3_put_4 (by decide) (fun c4 => ?_) (fun c4 => ?_)
  · skip
    rcases hq1 with ⟨e, _⟩ | ⟨_, hb⟩
    · rw [e] at c4; exact absurd c4 (by decide)
    refine lv_iconst (v := (-1)) S.1 S.2.1 dX3_put_14 (by decide) ?_
    exact rt_i S hr hlk hH dX3_put_15 (⟨rfl, hF, by rw [sPut_bad (Or.inl (ri_none hb))], by rw [sPut_bad (Or.inl (ri_none hb))]; exact ⟨_, _, _, _, _, _, _, _, _, _, _, _, _, _, _, m0, m1, m2, m3, m4, m5, m6, m7, m8, mz9, m10, m11, m12, hsl, hmi⟩⟩)
  · skip
    rcases hq1 with ⟨_, j, hj0, rfl⟩ | ⟨e, _⟩
    rotate_left
    · exact absurd e c4
    refine lv_iload_n S.1 S.2.1 dX3_put_7 rfl (lv_at hl 2 rfl) ?_
    refine ck_ip (run_S (As := [.int (a)]) (rest := []) S hK hH (kX3_is a) ceX3_is mW350 rfl hl.1 rfl (Nat.le_of_ble_eq_true rfl) dX3_put_8 ⟨rfl, rfl, by decide, by decide⟩ ⟨show 0 + 0 ≤ 0 by omega, show 0 + 0 ≤ 0 by omega⟩) hH (fun r8 H locs hp hH => ?_)
    have hq2 : Hid _ := hp
    clear hp
    refine lv_if_ne (tgt := 16) S.1 S.2.1 dX3_put_11 (by decide) (fun c11 => ?_) (fun c11 => ?_)
    · skip
      rcases hq2 with ⟨_, p1, hp0, rfl⟩ | ⟨e, _⟩
      rotate_left
      · exact absurd e c11
      obtain ⟨L, hLp⟩ : ∃ L, Sl p1 = L := ⟨_, rfl⟩
      have hLs : L = σ.1 p1 := hLp.symm.trans (hrl p1 hp0)
      have hok : okP L := by rw [← hLp]; exact (hsl p1 (by omega)).1
      have hlen := hok.2.1
      have hL0 : S0 p1 = L := (hS0 p1 (by omega)).trans hLp
      refine lv_aload_n S.1 S.2.1 dX3_put_16 rfl (lv_at hl 0 rfl) ?_
      refine gfX3_9 S hK hH m0 dX3_put_17 ?_
      refine lv_bipush (v := nI 56) S.1 S.2.1 dX3_put_20 (by decide) ?_
      refine lv_iconst (v := nI 0) S.1 S.2.1 dX3_put_22 (by decide) ?_
      refine ast_i S hK hH m1 (by omega) (by omega) dX3_put_23 (fun w3 H locs m1 fr hH => ?_)
      replace m0 := (fr (M) (by omega)).trans m0
      replace m2 := (fr (M + 2) (by omega)).trans m2
      replace m3 := (fr (M + 3) (by omega)).trans m3
      replace m4 := (fr (M + 4) (by omega)).trans m4
      replace m5 := (fr (M + 5) (by omega)).trans m5
      replace m6 := (fr (M + 6) (by omega)).trans m6
      replace m7 := (fr (M + 7) (by omega)).trans m7
      replace m8 := (fr (M + 8) (by omega)).trans m8
      replace mz9 := (fr (M + 9) (by omega)).trans mz9
      replace m10 := (fr (M + 10) (by omega)).trans m10
      replace m11 := (fr (M + 11) (by omega)).trans m11
      replace m12 := (fr (M + 12) (by omega)).trans m12
      replace hF : ∀ b, b < M ∨ M + 13 ≤ b → w3 b = w b := fun b hb => (fr b (by omega)).trans (hF b hb)
      replace hsl := slots_0 (z := 56) hsl (by omega)
      refine lv_bipush (v := nI 60) S.1 S.2.1 dX3_put_24 (by decide) ?_
      refine lv_iload_n S.1 S.2.1 dX3_put_26 rfl (lv_at hl 2 rfl) ?_
      refine lv_imul S.1 S.2.1 dX3_put_27 ?_
      refine tpi (x' := nI (60 * p1)) (pk_mul _ _) ?_
      refine lv_istore_n (lv' := [(3, .int (nI (60 * p1))), (0, .ref (M)), (1, .int (nI j)), (2, .int (nI p1))]) S.1 S.2.1 dX3_put_28 rfl hl (by decide) rfl (fun ls hl => ?_)
      refine wlp (P := fun k_ ls H' locs' => ∃ (k : Nat) (acc : PL) (Sl : Nat → PL) (cnt big : Int32) (ma : Nat → Int32) (gc gh gl fc fh fl : Nat → Int64) (v : Wm), lv_has ls 7 [(0, .ref (M)), (1, .int (nI j)), (2, .int (nI p1)), (3, .int (nI (60 * p1 + k)))] ∧ HS G B v (n) s H' locs' ∧ v (M) = some (eO 3 [.ref (M + 1), .ref (M + 2), .ref (M + 3), .ref (M + 4), .int (nI (σ.2.2.1)), .int (nI (σ.2.2.2.2.2)), .ref (M + 5), .ref (M + 6), .ref (M + 7), .ref (M + 8), .ref (M + 9), .int (cnt), .int (big), .ref (M + 10), .ref (M + 11), .ref (M + 12)]) ∧ v (M + 1) = some (eI G (62) (ma)) ∧ v (M + 2) = some (eJ G (3720) (gc)) ∧ v (M + 3) = some (eJ G (3720) (gh)) ∧ v (M + 4) = some (eJ G (3720) (gl)) ∧ v (M + 5) = some (eI G (20) (nu)) ∧ v (M + 6) = some (eI G (20) (f1)) ∧ v (M + 7) = some (eI G (20) (f2)) ∧ v (M + 8) = some (eI G (20) (f3)) ∧ v (M + 9) = some (eI G (20) (f4)) ∧ v (M + 10) = some (eJ G (3700) (fc)) ∧ v (M + 11) = some (eJ G (3700) (fh)) ∧ v (M + 12) = some (eJ G (3700) (fl)) ∧ (∀ b, b < M ∨ M + 13 ≤ b → v b = w b) ∧ (k ≤ L.length) ∧ (SlotsOK ma gc gh gl Sl) ∧ (∀ i, i < 56 → Sl i = S0 i) ∧ (Sl 56 = acc) ∧ (pput σ.1 L [] = pput σ.1 (L.drop k) acc) ∧ k_ = L.length - k) ?_ (k0 := L.length - (0)) ⟨0, [], va_up Sl 56 [], _, _, _, _, _, _, _, _, _, w3, lv_sub hl [1, 2, 3, 0] rfl, hH, m0, m1, m2, m3, m4, m5, m6, m7, m8, mz9, m10, m11, m12, hF, by omega, hsl, fun i h => (va_up_ne _ _ (by omega)).trans (hS0 i h).symm, va_up_self _ _ _, rfl, rfl⟩
      intro k29 ls H locs hP ih29
      obtain ⟨k, acc, Sl, cnt, big, ma, gc, gh, gl, fc, fh, fl, v, hl, hH, m0, m1, m2, m3, m4, m5, m6, m7, m8, mz9, m10, m11, m12, hF, hk, hsl, hS56, hacc, hw, hk29⟩ := hP
      refine lv_iload_n S.1 S.2.1 dX3_put_29 rfl (lv_at hl 3 rfl) ?_
      refine lv_bipush (v := nI 60) S.1 S.2.1 dX3_put_30 (by decide) ?_
      refine lv_iload_n S.1 S.2.1 dX3_put_32 rfl (lv_at hl 2 rfl) ?_
      refine lv_imul S.1 S.2.1 dX3_put_33 ?_
      refine tpi (x' := nI (60 * p1)) (pk_mul _ _) ?_
      refine lv_aload_n S.1 S.2.1 dX3_put_34 rfl (lv_at hl 0 rfl) ?_
      refine gfX3_9 S hK hH m0 dX3_put_35 ?_
      refine lv_iload_n S.1 S.2.1 dX3_put_38 rfl (lv_at hl 2 rfl) ?_
      refine ald_i S hK hH m1 (by omega) (by omega) dX3_put_39 ?_
      refine tpi (x' := nI (L.length)) (by have := (hsl p1 (by omega)).2.1; rw [hS56 p1 (by omega), hL0] at this; exact this) ?_
      refine lv_iadd S.1 S.2.1 dX3_put_40 ?_
      refine tpi (x' := nI (60 * p1 + L.length)) (nI_add _ _) ?_
      refine bn_ge (tgt := 140) S dX3_put_41 (by decide) (by omega) (fun c41 => ?_) (fun c41 => ?_)
      · skip
        have ck : L.length ≤ k := by omega
        refine lv_aload_n S.1 S.2.1 dX3_put_140 rfl (lv_at hl 0 rfl) ?_
        refine lv_bipush (v := nI 56) S.1 S.2.1 dX3_put_141 (by decide) ?_
        refine lv_iload_n S.1 S.2.1 dX3_put_143 rfl (lv_at hl 1 rfl) ?_
        refine ck_v (run_V (As := [.int (nI 56), .int (nI j)]) (rest := []) S hK hH (kX3_copy M 56 j Sl (nI (σ.2.2.1)) (nI (σ.2.2.2.2.2)) cnt big ma gc gh gl fc fh fl m0 m1 m2 m3 m4 (by omega) (by omega) (by omega) hsl) ceX3_copy mW424 m0 rfl rfl hl.1 rfl (Nat.le_of_ble_eq_true rfl) dX3_put_144 ⟨rfl, rfl, by decide, by decide⟩ ⟨show 0 + 0 ≤ 0 by omega, show 0 + 0 ≤ 0 by omega⟩) hH (fun w4 n4 H locs hp hH => ?_)
        obtain ⟨hn1, hfr, ⟨ma, gc, gh, gl, m1, m2, m3, m4, hsl⟩⟩ := hp
        rw [hn1] at hH
        replace m0 := (hfr (M) (by omega)).trans m0
        replace m5 := (hfr (M + 5) (by omega)).trans m5
        replace m6 := (hfr (M + 6) (by omega)).trans m6
        replace m7 := (hfr (M + 7) (by omega)).trans m7
        replace m8 := (hfr (M + 8) (by omega)).trans m8
        replace mz9 := (hfr (M + 9) (by omega)).trans mz9
        replace m10 := (hfr (M + 10) (by omega)).trans m10
        replace m11 := (hfr (M + 11) (by omega)).trans m11
        replace m12 := (hfr (M + 12) (by omega)).trans m12
        replace hF : ∀ b, b < M ∨ M + 13 ≤ b → w4 b = w b := fun b hb => (hfr b (by omega)).trans (hF b hb)
        refine lv_aload_n S.1 S.2.1 dX3_put_147 rfl (lv_at hl 0 rfl) ?_
        refine gfX3_9 S hK hH m0 dX3_put_148 ?_
        refine lv_iload_n S.1 S.2.1 dX3_put_151 rfl (lv_at hl 1 rfl) ?_
        refine ald_i S hK hH m1 (by omega) (by omega) dX3_put_152 ?_
        refine tpi (x' := nI (acc.length)) (by have := (hsl j (by omega)).2.1; rw [va_up_self, hacc] at this; exact this) ?_
        have e9 := hw.trans (pput_end ck)
        rw [hLs] at e9
        rw [hacc] at hsl
        exact rt_i S hr hlk hH dX3_put_153 (⟨rfl, hF, by rw [sPut_some hj0 hp0 e9], by rw [sPut_some hj0 hp0 e9]; exact ⟨_, _, _, _, _, _, _, _, _, _, _, _, _, _, _, m0, m1, m2, m3, m4, m5, m6, m7, m8, mz9, m10, m11, m12, hsl, reg_I (sl_I hmi (fun i h => (hS56 i h).trans (hS0 i h))) hj0⟩⟩)
      · skip
        have ck : k < L.length := by omega
        have hcf : -99999999 ≤ cf L k ∧ cf L k ≤ 99999999 := (hok.2.2 _ (cd_mem ck)).2.2
        refine lv_aload_n S.1 S.2.1 dX3_put_44 rfl (lv_at hl 0 rfl) ?_
        refine lv_bipush (v := nI 57) S.1 S.2.1 dX3_put_45 (by decide) ?_
        refine lv_aload_n S.1 S.2.1 dX3_put_47 rfl (lv_at hl 0 rfl) ?_
        refine gfX3_13 S hK hH m0 dX3_put_48 ?_
        refine lv_iload_n S.1 S.2.1 dX3_put_51 rfl (lv_at hl 3 rfl) ?_
        refine ald_l S hK hH m2 (by omega) (by omega) dX3_put_52 ?_
        refine tpl (x' := lI (cf L k)) (by have := ((hsl p1 (by omega)).2.2 k (by rw [hS56 p1 (by omega), hL0]; exact ck)).1; rw [hS56 p1 (by omega), hL0] at this; exact this) ?_
        refine ck_i (run_V (As := [.int (nI 57), .long (lI (cf L k))]) (rest := []) S hK hH (kX3_whole M (57) (cf L k) Sl (nI (σ.2.2.1)) (nI (σ.2.2.2.2.2)) cnt big ma gc gh gl fc fh fl m0 m1 m2 m3 m4 m10 m11 m12 (by omega) hsl (by omega)) ceX3_whole mW353 m0 rfl rfl hl.1 rfl (Nat.le_of_ble_eq_true rfl) dX3_put_53 ⟨rfl, rfl, by decide, by decide⟩ ⟨show 0 + 0 ≤ 0 by omega, show 0 + 0 ≤ 0 by omega⟩) hH (fun r53 w5 n5 H locs hp hH => ?_)
        obtain ⟨hn1, hfr, ⟨cnt, big, fc, fh, fl, ma, gc, gh, gl, m0, m10, m11, m12, m1, m2, m3, m4, hq5⟩⟩ := hp
        rw [hn1] at hH
        replace hq5 : Hid _ := hq5
        replace m5 := (hfr (M + 5) (by omega)).trans m5
        replace m6 := (hfr (M + 6) (by omega)).trans m6
        replace m7 := (hfr (M + 7) (by omega)).trans m7
        replace m8 := (hfr (M + 8) (by omega)).trans m8
        replace mz9 := (hfr (M + 9) (by omega)).trans mz9
        replace hF : ∀ b, b < M ∨ M + 13 ≤ b → w5 b = w b := fun b hb => (hfr b (by omega)).trans (hF b hb)
        obtain ⟨e53, hsl⟩ := whole_in hcf hq5
        rw [e53]
        have hT57 := (va_up_self Sl 57 (one 0 (cf L k)))
        have hS57 : (va_up Sl 57 (one 0 (cf L k))) 56 = acc := by rw [va_up_ne _ _ (by omega)]; exact hacc
        replace hS56 : ∀ i, i < 56 → (va_up Sl 57 (one 0 (cf L k))) i = S0 i := fun i h => by rw [va_up_ne _ _ (by omega)]; exact hS56 i h
        refine lv_istore (lv' := [(4, .int (nI 1)), (0, .ref (M)), (1, .int (nI j)), (2, .int (nI p1)), (3, .int (nI (60 * p1 + k)))]) S.1 S.2.1 dX3_put_56 hl (by decide) rfl (fun ls hl => ?_)
        refine lv_iconst (v := nI 0) S.1 S.2.1 dX3_put_58 (by decide) ?_
        refine lv_istore (lv' := [(5, .int (nI 0)), (4, .int (nI 1)), (0, .ref (M)), (1, .int (nI j)), (2, .int (nI p1)), (3, .int (nI (60 * p1 + k)))]) S.1 S.2.1 dX3_put_59 hl (by decide) rfl (fun ls hl => ?_)
        refine wlp (P := fun k_ ls H' locs' => ∃ (s1 : Nat) (g : Int32) (Sl : Nat → PL) (cnt big : Int32) (ma : Nat → Int32) (gc gh gl fc fh fl : Nat → Int64) (v : Wm), lv_has ls 7 [(0, .ref (M)), (1, .int (nI j)), (2, .int (nI p1)), (3, .int (nI (60 * p1 + k))), (4, .int (g)), (5, .int (nI s1))] ∧ HS G B v (n) s H' locs' ∧ v (M) = some (eO 3 [.ref (M + 1), .ref (M + 2), .ref (M + 3), .ref (M + 4), .int (nI (σ.2.2.1)), .int (nI (σ.2.2.2.2.2)), .ref (M + 5), .ref (M + 6), .ref (M + 7), .ref (M + 8), .ref (M + 9), .int (cnt), .int (big), .ref (M + 10), .ref (M + 11), .ref (M + 12)]) ∧ v (M + 1) = some (eI G (62) (ma)) ∧ v (M + 2) = some (eJ G (3720) (gc)) ∧ v (M + 3) = some (eJ G (3720) (gh)) ∧ v (M + 4) = some (eJ G (3720) (gl)) ∧ v (M + 5) = some (eI G (20) (nu)) ∧ v (M + 6) = some (eI G (20) (f1)) ∧ v (M + 7) = some (eI G (20) (f2)) ∧ v (M + 8) = some (eI G (20) (f3)) ∧ v (M + 9) = some (eI G (20) (f4)) ∧ v (M + 10) = some (eJ G (3700) (fc)) ∧ v (M + 11) = some (eJ G (3700) (fh)) ∧ v (M + 12) = some (eJ G (3700) (fl)) ∧ (∀ b, b < M ∨ M + 13 ≤ b → v b = w b) ∧ (s1 ≤ 16) ∧ (SlotsOK ma gc gh gl Sl) ∧ (∀ i, i < 56 → Sl i = S0 i) ∧ (Sl 56 = acc) ∧ (GP Sl g (pterm σ.1 (cd L k, cf L k)) (wt σ.1 (cd L k) (16 - s1))) ∧ k_ = 16 - s1) ?_ (k0 := 16 - (0)) ⟨0, nI 1, va_up Sl 57 (one 0 (cf L k)), _, _, _, _, _, _, _, _, _, w5, lv_sub hl [2, 3, 4, 5, 1, 0] rfl, hH, m0, m1, m2, m3, m4, m5, m6, m7, m8, mz9, m10, m11, m12, hF, by omega, hsl, hS56, hS57, Or.inl ⟨rfl, _, hT57, rfl⟩, rfl⟩
        intro k61 ls H locs hP ih61
        obtain ⟨s1, g, Sl, cnt, big, ma, gc, gh, gl, fc, fh, fl, v, hl, hH, m0, m1, m2, m3, m4, m5, m6, m7, m8, mz9, m10, m11, m12, hF, hs1, hsl, hS56, hacc, hg, hk61⟩ := hP
        refine lv_iload S.1 S.2.1 dX3_put_61 (lv_at hl 5 rfl) ?_
        refine lv_bipush (v := nI 16) S.1 S.2.1 dX3_put_63 (by decide) ?_
        refine bn_ge (tgt := 112) S dX3_put_65 (by decide) (by omega) (fun c65 => ?_) (fun c65 => ?_)
        · skip
          refine lv_iload S.1 S.2.1 dX3_put_112 (lv_at hl 4 rfl) ?_
          refine lv_if_eq (tgt := 131) S.1 S.2.1 dX3_put_114 (by decide) (fun c114 => ?_) (fun c114 => ?_)
          · skip
            have hn := GP_0 hg c114
            refine lv_bipush (v := (-2)) S.1 S.2.1 dX3_put_131 (by decide) ?_
            have e9 := hw.trans (pput_none1 ck hn)
            rw [hLs] at e9
            exact rt_i S hr hlk hH dX3_put_133 (⟨rfl, hF, by rw [sPut_none hj0 hp0 e9], by rw [sPut_none hj0 hp0 e9]; exact ⟨_, _, _, _, _, _, _, _, _, _, _, _, _, _, _, m0, m1, m2, m3, m4, m5, m6, m7, m8, mz9, m10, m11, m12, hsl, sl_I hmi (fun i h => (hS56 i h).trans (hS0 i h))⟩⟩)
          · skip
            obtain ⟨A, hA57, hwA⟩ := GP_1 hg c114
            rw [show 16 - s1 = 0 by omega] at hwA
            have hwA : pterm σ.1 (cd L k, cf L k) = some A := hwA
            refine lv_aload_n S.1 S.2.1 dX3_put_117 rfl (lv_at hl 0 rfl) ?_
            refine lv_bipush (v := nI 56) S.1 S.2.1 dX3_put_118 (by decide) ?_
            refine lv_bipush (v := nI 56) S.1 S.2.1 dX3_put_120 (by decide) ?_
            refine lv_bipush (v := nI 57) S.1 S.2.1 dX3_put_122 (by decide) ?_
            refine lv_lconst (v := lI 1) S.1 S.2.1 dX3_put_124 (by decide) ?_
            refine ck_i (run_V (As := [.int (nI 56), .int (nI 56), .int (nI 57), .long (lI 1)]) (rest := []) S hK hH (kX3_sum M (56) (56) (57) (1) Sl (nI (σ.2.2.1)) (nI (σ.2.2.2.2.2)) cnt big ma gc gh gl fc fh fl m0 m1 m2 m3 m4 m10 m11 m12 (by omega) (by omega) (by omega) hsl (Or.inl rfl)) ceX3_sum mW391 m0 rfl rfl hl.1 rfl (Nat.le_of_ble_eq_true rfl) dX3_put_125 ⟨rfl, rfl, by decide, by decide⟩ ⟨show 0 + 0 ≤ 0 by omega, show 0 + 0 ≤ 0 by omega⟩) hH (fun r125 w6 n6 H locs hp hH => ?_)
            obtain ⟨hn1, hfr, ⟨cnt, big, fc, fh, fl, ma, gc, gh, gl, m0, m10, m11, m12, m1, m2, m3, m4, hq5⟩⟩ := hp
            rw [hn1] at hH
            replace hq5 : Hid _ := hq5
            replace m5 := (hfr (M + 5) (by omega)).trans m5
            replace m6 := (hfr (M + 6) (by omega)).trans m6
            replace m7 := (hfr (M + 7) (by omega)).trans m7
            replace m8 := (hfr (M + 8) (by omega)).trans m8
            replace mz9 := (hfr (M + 9) (by omega)).trans mz9
            replace hF : ∀ b, b < M ∨ M + 13 ≤ b → w6 b = w b := fun b hb => (hfr b (by omega)).trans (hF b hb)
            refine lv_if_ne (tgt := 134) S.1 S.2.1 dX3_put_128 (by decide) (fun c128 => ?_) (fun c128 => ?_)
            · skip
              rcases hq5 with ⟨_, K, e1, hsl⟩ | ⟨e, _⟩
              rotate_left
              · exact absurd e c128
              rw [hacc, hA57] at e1
              refine lv_iinc (v := nI (60 * p1 + k + 1)) (lv' := [(3, .int (nI (60 * p1 + k + 1))), (0, .ref (M)), (1, .int (nI j)), (2, .int (nI p1)), (4, .int (g)), (5, .int (nI s1))]) S.1 S.2.1 dX3_put_134 hl (k := 3) rfl (nI_inc _ 1) (by decide) rfl (fun ls hl => ?_)
              refine lv_goto (tgt := 29) S.1 S.2.1 dX3_put_137 (by decide) ?_
              exact ih29 _ _ _ _ (by omega) ⟨k + 1, K, va_up Sl 56 K, _, _, _, _, _, _, _, _, _, w6, lv_sub hl [1, 2, 3, 0] rfl, hH, m0, m1, m2, m3, m4, m5, m6, m7, m8, mz9, m10, m11, m12, hF, by omega, hsl, fun i h => by rw [va_up_ne _ _ (by omega)]; exact hS56 i h, va_up_self _ _ _, hw.trans (pput_some ck hwA e1), rfl⟩
            · skip
              rcases hq5 with ⟨e, _⟩ | ⟨_, e1, hsl⟩
              · rw [e] at c128; exact absurd c128 (by decide)
              rw [hacc, hA57] at e1
              refine lv_bipush (v := (-2)) S.1 S.2.1 dX3_put_131 (by decide) ?_
              have e9 := hw.trans (pput_none2 ck hwA e1)
              rw [hLs] at e9
              exact rt_i S hr hlk hH dX3_put_133 (⟨rfl, hF, by rw [sPut_none hj0 hp0 e9], by rw [sPut_none hj0 hp0 e9]; exact ⟨_, _, _, _, _, _, _, _, _, _, _, _, _, _, _, m0, m1, m2, m3, m4, m5, m6, m7, m8, mz9, m10, m11, m12, hsl, sl_I hmi (fun i h => (hS56 i h).trans (hS0 i h))⟩⟩)
        · skip
          refine lv_iconst (v := nI 0) S.1 S.2.1 dX3_put_68 (by decide) ?_
          refine lv_istore (lv' := [(6, .int (nI 0)), (0, .ref (M)), (1, .int (nI j)), (2, .int (nI p1)), (3, .int (nI (60 * p1 + k))), (4, .int (g)), (5, .int (nI s1))]) S.1 S.2.1 dX3_put_69 hl (by decide) rfl (fun ls hl => ?_)
          refine wlp (P := fun k_ ls H' locs' => ∃ (i1 : Nat) (g : Int32) (Sl : Nat → PL) (cnt big : Int32) (ma : Nat → Int32) (gc gh gl fc fh fl : Nat → Int64) (v : Wm), lv_has ls 7 [(0, .ref (M)), (1, .int (nI j)), (2, .int (nI p1)), (3, .int (nI (60 * p1 + k))), (4, .int (g)), (5, .int (nI s1)), (6, .int (nI i1))] ∧ HS G B v (n) s H' locs' ∧ v (M) = some (eO 3 [.ref (M + 1), .ref (M + 2), .ref (M + 3), .ref (M + 4), .int (nI (σ.2.2.1)), .int (nI (σ.2.2.2.2.2)), .ref (M + 5), .ref (M + 6), .ref (M + 7), .ref (M + 8), .ref (M + 9), .int (cnt), .int (big), .ref (M + 10), .ref (M + 11), .ref (M + 12)]) ∧ v (M + 1) = some (eI G (62) (ma)) ∧ v (M + 2) = some (eJ G (3720) (gc)) ∧ v (M + 3) = some (eJ G (3720) (gh)) ∧ v (M + 4) = some (eJ G (3720) (gl)) ∧ v (M + 5) = some (eI G (20) (nu)) ∧ v (M + 6) = some (eI G (20) (f1)) ∧ v (M + 7) = some (eI G (20) (f2)) ∧ v (M + 8) = some (eI G (20) (f3)) ∧ v (M + 9) = some (eI G (20) (f4)) ∧ v (M + 10) = some (eJ G (3700) (fc)) ∧ v (M + 11) = some (eJ G (3700) (fh)) ∧ v (M + 12) = some (eJ G (3700) (fl)) ∧ (∀ b, b < M ∨ M + 13 ≤ b → v b = w b) ∧ (i1 ≤ dig (cd L k) s1) ∧ (SlotsOK ma gc gh gl Sl) ∧ (∀ i, i < 56 → Sl i = S0 i) ∧ (Sl 56 = acc) ∧ (GP Sl g (pterm σ.1 (cd L k, cf L k)) (fun A => (pwr (σ.1 s1) (dig (cd L k) s1 - i1) A).bind (wt σ.1 (cd L k) (15 - s1)))) ∧ k_ = dig (cd L k) s1 - i1) ?_ (k0 := dig (cd L k) s1 - (0)) ⟨0, g, Sl, _, _, _, _, _, _, _, _, _, v, lv_sub hl [1, 2, 3, 4, 5, 6, 0] rfl, hH, m0, m1, m2, m3, m4, m5, m6, m7, m8, mz9, m10, m11, m12, hF, by omega, hsl, hS56, hacc, GP_cg hg (fun A => wt_beg c65), rfl⟩
          intro k71 ls H locs hP ih71
          obtain ⟨i1, g, Sl, cnt, big, ma, gc, gh, gl, fc, fh, fl, v, hl, hH, m0, m1, m2, m3, m4, m5, m6, m7, m8, mz9, m10, m11, m12, hF, hi1, hsl, hS56, hacc, hg, hk71⟩ := hP
          refine lv_iload S.1 S.2.1 dX3_put_71 (lv_at hl 6 rfl) ?_
          refine lv_aload_n S.1 S.2.1 dX3_put_73 rfl (lv_at hl 0 rfl) ?_
          refine lv_iload_n S.1 S.2.1 dX3_put_74 rfl (lv_at hl 3 rfl) ?_
          refine lv_iload S.1 S.2.1 dX3_put_75 (lv_at hl 5 rfl) ?_
          refine ck_ip (run_V (As := [.int (nI (60 * p1 + k)), .int (nI s1)]) (rest := [.int (nI i1)]) S hK hH (kX3_power M p1 k s1 Sl (nI (σ.2.2.1)) (nI (σ.2.2.2.2.2)) cnt big ma gc gh gl fc fh fl m0 m1 m2 m3 m4 (by omega) hsl (by rw [hS56 p1 (by omega), hL0]; exact ck) c65) ceX3_power mW420 m0 rfl rfl hl.1 rfl (Nat.le_of_ble_eq_true rfl) dX3_put_77 ⟨rfl, rfl, by decide, by decide⟩ ⟨show 0 + 0 ≤ 0 by omega, show 0 + 0 ≤ 0 by omega⟩) hH (fun r77 H locs hp hH => ?_)
          have hq7 : Hid _ := hp
          clear hp
          rw [hS56 p1 (by omega), hL0] at hq7
          obtain rfl := hq7
          have hd10 := dig_lt (cd L k) s1
          refine bn_ge (tgt := 106) S dX3_put_80 (by decide) (by omega) (fun c80 => ?_) (fun c80 => ?_)
          · skip
            refine lv_iinc (v := nI (s1 + 1)) (lv' := [(5, .int (nI (s1 + 1))), (0, .ref (M)), (1, .int (nI j)), (2, .int (nI p1)), (3, .int (nI (60 * p1 + k))), (4, .int (g)), (6, .int (nI i1))]) S.1 S.2.1 dX3_put_106 hl (k := 5) rfl (nI_inc _ 1) (by decide) rfl (fun ls hl => ?_)
            refine lv_goto (tgt := 61) S.1 S.2.1 dX3_put_109 (by decide) ?_
            exact ih61 _ _ _ _ (by omega) ⟨s1 + 1, g, Sl, _, _, _, _, _, _, _, _, _, v, lv_sub hl [1, 2, 3, 4, 5, 0] rfl, hH, m0, m1, m2, m3, m4, m5, m6, m7, m8, mz9, m10, m11, m12, hF, by omega, hsl, hS56, hacc, GP_end hg c65 c80, rfl⟩
          · skip
            refine lv_iload S.1 S.2.1 dX3_put_83 (lv_at hl 4 rfl) ?_
            refine lv_if_eq (tgt := 106) S.1 S.2.1 dX3_put_85 (by decide) (fun c85 => ?_) (fun c85 => ?_)
            · skip
              refine lv_iinc (v := nI (s1 + 1)) (lv' := [(5, .int (nI (s1 + 1))), (0, .ref (M)), (1, .int (nI j)), (2, .int (nI p1)), (3, .int (nI (60 * p1 + k))), (4, .int (g)), (6, .int (nI i1))]) S.1 S.2.1 dX3_put_106 hl (k := 5) rfl (nI_inc _ 1) (by decide) rfl (fun ls hl => ?_)
              refine lv_goto (tgt := 61) S.1 S.2.1 dX3_put_109 (by decide) ?_
              exact ih61 _ _ _ _ (by omega) ⟨s1 + 1, g, Sl, _, _, _, _, _, _, _, _, _, v, lv_sub hl [1, 2, 3, 4, 5, 0] rfl, hH, m0, m1, m2, m3, m4, m5, m6, m7, m8, mz9, m10, m11, m12, hF, by omega, hsl, hS56, hacc, Or.inr ⟨c85, GP_0 hg c85⟩, rfl⟩
            · skip
              refine lv_aload_n S.1 S.2.1 dX3_put_88 rfl (lv_at hl 0 rfl) ?_
              refine lv_bipush (v := nI 57) S.1 S.2.1 dX3_put_89 (by decide) ?_
              refine lv_bipush (v := nI 57) S.1 S.2.1 dX3_put_91 (by decide) ?_
              refine lv_iload S.1 S.2.1 dX3_put_93 (lv_at hl 5 rfl) ?_
              obtain ⟨A, hA57, hwA⟩ := GP_1 hg c85
              refine ck_i (run_V (As := [.int (nI 57), .int (nI 57), .int (nI s1)]) (rest := []) S hK hH (kX3_product M (57) (57) (s1) Sl (nI (σ.2.2.1)) (nI (σ.2.2.2.2.2)) cnt big ma gc gh gl fc fh fl m0 m1 m2 m3 m4 m10 m11 m12 (by omega) (by omega) (by omega) hsl) ceX3_product mW408 m0 rfl rfl hl.1 rfl (Nat.le_of_ble_eq_true rfl) dX3_put_95 ⟨rfl, rfl, by decide, by decide⟩ ⟨show 0 + 0 ≤ 0 by omega, show 0 + 0 ≤ 0 by omega⟩) hH (fun r95 w8 n8 H locs hp hH => ?_)
              obtain ⟨hn1, hfr, ⟨cnt, big, fc, fh, fl, ma, gc, gh, gl, m0, m10, m11, m12, m1, m2, m3, m4, hq5⟩⟩ := hp
              rw [hn1] at hH
              replace hq5 : Hid _ := hq5
              replace m5 := (hfr (M + 5) (by omega)).trans m5
              replace m6 := (hfr (M + 6) (by omega)).trans m6
              replace m7 := (hfr (M + 7) (by omega)).trans m7
              replace m8 := (hfr (M + 8) (by omega)).trans m8
              replace mz9 := (hfr (M + 9) (by omega)).trans mz9
              replace hF : ∀ b, b < M ∨ M + 13 ≤ b → w8 b = w b := fun b hb => (hfr b (by omega)).trans (hF b hb)
              have hg9 := GQ_s c80 hA57 (by rw [← hrl s1 c65, ← hS0 s1 (by omega)]; exact hS56 s1 (by omega)) hwA hq5
              obtain ⟨Sl, hsl, hS56, hacc, hg⟩ := GQ_k hg9 hS56 hacc hq5
              refine lv_istore (lv' := [(4, .int (r95)), (0, .ref (M)), (1, .int (nI j)), (2, .int (nI p1)), (3, .int (nI (60 * p1 + k))), (5, .int (nI s1)), (6, .int (nI i1))]) S.1 S.2.1 dX3_put_98 hl (by decide) rfl (fun ls hl => ?_)
              refine lv_iinc (v := nI (i1 + 1)) (lv' := [(6, .int (nI (i1 + 1))), (4, .int (r95)), (0, .ref (M)), (1, .int (nI j)), (2, .int (nI p1)), (3, .int (nI (60 * p1 + k))), (5, .int (nI s1))]) S.1 S.2.1 dX3_put_100 hl (k := 6) rfl (nI_inc _ 1) (by decide) rfl (fun ls hl => ?_)
              refine lv_goto (tgt := 71) S.1 S.2.1 dX3_put_103 (by decide) ?_
              exact ih71 _ _ _ _ (by omega) ⟨i1 + 1, _, Sl, _, _, _, _, _, _, _, _, _, w8, lv_sub hl [2, 3, 4, 5, 1, 6, 0] rfl, hH, m0, m1, m2, m3, m4, m5, m6, m7, m8, mz9, m10, m11, m12, hF, by omega, hsl, hS56, hacc, hg, rfl⟩
    · skip
      rcases hq2 with ⟨e, _⟩ | ⟨_, hb⟩
      · rw [e] at c11; exact absurd c11 (by decide)
      refine lv_iconst (v := (-1)) S.1 S.2.1 dX3_put_14 (by decide) ?_
      exact rt_i S hr hlk hH dX3_put_15 (⟨rfl, hF, by rw [sPut_bad (Or.inr (ri_none hb))], by rw [sPut_bad (Or.inr (ri_none hb))]; exact ⟨_, _, _, _, _, _, _, _, _, _, _, _, _, _, _, m0, m1, m2, m3, m4, m5, m6, m7, m8, mz9, m10, m11, m12, hsl, hmi⟩⟩)

