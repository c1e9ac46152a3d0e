/-! ===== the product ===== -/
def sumN (f : Nat → Int) : Nat → Int
  | 0 => 0
  | n + 1 => sumN f n + f n
theorem sumN_congr {f g : Nat → Int} {n : Nat} (h : ∀ i, i < n → f i = g i) : sumN f n = sumN g n := by
  induction n with
  | zero => rfl
  | succ n ih => rw [sumN, sumN, ih (fun i hi => h i (by omega)), h n (by omega)]
theorem sumN_zero {f : Nat → Int} {n : Nat} (h : ∀ i, i < n → f i = 0) : sumN f n = 0 := by
  induction n with
  | zero => rfl
  | succ n ih => rw [sumN, ih (fun i hi => h i (by omega)), h n (by omega)]; rfl
theorem sumN_cut {f : Nat → Int} {m n : Nat} (hmn : m ≤ n) (h : ∀ i, m ≤ i → i < n → f i = 0) : sumN f n = sumN f m := by
  induction n with
  | zero => rw [show m = 0 by omega]
  | succ n ih =>
    rcases Nat.lt_or_ge m (n + 1) with q | q
    · rw [sumN, ih (by omega) (fun i h1 h2 => h i h1 (by omega)), h n (by omega) (by omega)]; omega
    · rw [show m = n + 1 by omega]
def pr1 (t : Nat × Int) : PL → Nat → Int
  | [], _ => 0
  | s :: Y, c => (if t.1 + s.1 = c then t.2 * s.2 else 0) + pr1 t Y c
def pc : PL → PL → Nat → Int
  | [], _, _ => 0
  | t :: X, Y, c => pr1 t Y c + pc X Y c
theorem pr1_out {t : Nat × Int} {Y : PL} {c : Nat} (h : ∀ s ∈ Y, t.1 + s.1 ≠ c) : pr1 t Y c = 0 := by
  induction Y with
  | nil => rfl
  | cons s Y ih => rw [pr1, if_neg (h s List.mem_cons_self), ih (fun u hu => h u (List.mem_cons_of_mem _ hu))]; rfl
theorem pr1_at {t : Nat × Int} {Y : PL} {m c : Nat} (h : m < Y.length) : pr1 t (Y.drop m) c = (if t.1 + cd Y m = c then t.2 * cf Y m else 0) + pr1 t (Y.drop (m + 1)) c := by
  rw [drop_cd h, pr1]
theorem drop_mem {Y : PL} {m : Nat} {s : Nat × Int} (h : s ∈ Y.drop m) : ∃ j, m ≤ j ∧ j < Y.length ∧ s = (cd Y j, cf Y j) := by
  obtain ⟨j, hj, e⟩ := List.getElem_of_mem h
  rw [List.length_drop] at hj
  refine ⟨m + j, by omega, by omega, ?_⟩
  rw [List.getElem_drop] at e
  have e1 : Y.getD (m + j) (0, 0) = Y[m + j]'(by omega) := by simp [List.getD_eq_getElem?_getD, show m + j < Y.length by omega]
  unfold cd cf
  rw [e1, e]
theorem pr1_zero {t : Nat × Int} {Y : PL} {m c : Nat} (h : ∀ j, m ≤ j → j < Y.length → t.1 + cd Y j ≠ c) : pr1 t (Y.drop m) c = 0 :=
  pr1_out (fun s hs => by
    obtain ⟨j, h1, h2, rfl⟩ := drop_mem hs
    exact h j h1 h2)
def pcR (X Y : PL) (me : Nat → Nat) (c : Nat) : Int := sumN (fun i => pr1 (cd X i, cf X i) (Y.drop (me i)) c) X.length
theorem cd_cons {t : Nat × Int} {X : PL} {i : Nat} : cd (t :: X) (i + 1) = cd X i ∧ cf (t :: X) (i + 1) = cf X i := ⟨rfl, rfl⟩
theorem sumN_shift (f : Nat → Int) (n : Nat) : sumN f (n + 1) = f 0 + sumN (fun i => f (i + 1)) n := by
  induction n with
  | zero => simp [sumN]
  | succ n ih => rw [sumN, ih, sumN]; omega
theorem pcR_0 (X Y : PL) (c : Nat) : pcR X Y (fun _ => 0) c = pc X Y c := by
  unfold pcR
  induction X with
  | nil => rfl
  | cons t X ih =>
    rw [List.length_cons, sumN_shift, pc, ← ih]
    simp [cd_cons.1, cd_cons.2]
    rfl
/-- what holds between the steps of a merge -/
def MInv (X Y : PL) (me : Nat → Nat) (bg : Nat) : Prop := 1 ≤ bg ∧ bg ≤ X.length ∧ (∀ i, i < X.length → me i ≤ Y.length) ∧ (∀ i, bg ≤ i → i < X.length → me i = 0) ∧ (bg = X.length ∨ me (bg - 1) = 0)
def mstr (X Y : PL) : Nat → (Nat → Nat) → Nat → PL
  | 0, _, _ => []
  | f + 1, me, bg => if gC X Y me bg < 0 then [] else ((gC X Y me bg).toNat, gK X Y me (gC X Y me bg).toNat bg) :: mstr X Y f (gM X Y me (gC X Y me bg).toNat bg) (if bg < X.length ∧ 0 < gM X Y me (gC X Y me bg).toNat bg (bg - 1) then bg + 1 else bg)
theorem mrg_str (X Y : PL) : ∀ (f : Nat) (acc : PL) (me : Nat → Nat) (bg : Nat), mrg X Y f acc me bg = appAll 60 acc (mstr X Y f me bg)
  | 0, _, _, _ => rfl
  | f + 1, acc, me, bg => by
    rw [mrg, mstr]
    by_cases h : gC X Y me bg < 0
    · rw [if_pos h, if_pos h]; rfl
    · rw [if_neg h, if_neg h, appAll]
      congr 1
      funext a
      exact mrg_str X Y f a _ _
theorem gC_le {X Y : PL} {me : Nat → Nat} : ∀ {bg i : Nat}, i < bg → me i < Y.length → ((cd X i + cd Y (me i) : Nat) : Int) ≤ gC X Y me bg
  | bg + 1, i, h1, h2 => by
    rw [gC]
    rcases Nat.lt_or_ge i bg with q | q
    · have := gC_le (X := X) q h2
      split <;> omega
    · have e : i = bg := by omega
      subst e
      rw [if_pos h2]
      omega
theorem gC_is {X Y : PL} {me : Nat → Nat} : ∀ {bg : Nat}, gC X Y me bg = -1 ∨ ∃ i, i < bg ∧ me i < Y.length ∧ gC X Y me bg = ((cd X i + cd Y (me i) : Nat) : Int)
  | 0 => Or.inl rfl
  | bg + 1 => by
    rw [gC]
    split
    · rename_i h
      rcases Int.le_total (gC X Y me bg) ((cd X bg + cd Y (me bg) : Nat) : Int) with q | q
      · exact Or.inr ⟨bg, by omega, h, Int.max_eq_right q⟩
      · rcases gC_is (X := X) (Y := Y) (me := me) (bg := bg) with e | ⟨i, h1, h2, e⟩
        · omega
        · exact Or.inr ⟨i, by omega, h2, by rw [Int.max_eq_left q]; exact e⟩
    · rcases gC_is (X := X) (Y := Y) (me := me) (bg := bg) with e | ⟨i, h1, h2, e⟩
      · exact Or.inl e
      · exact Or.inr ⟨i, by omega, h2, e⟩
theorem gC_all {X Y : PL} {me : Nat → Nat} {bg : Nat} (hX : Srt X) (hY : Srt Y) (h : MInv X Y me bg) {i j : Nat} (hi : i < X.length) (h1 : me i ≤ j) (h2 : j < Y.length) : ((cd X i + cd Y j : Nat) : Int) ≤ gC X Y me bg ∧ (bg ≤ i → ((cd X i + cd Y j : Nat) : Int) < gC X Y me bg) := by
  obtain ⟨g1, g2, g3, g4, g5⟩ := h
  rcases Nat.lt_or_ge i bg with q | q
  · have e1 := gC_le (X := X) (Y := Y) (me := me) q (by omega)
    have e2 := srt_cd_le hY h1 h2
    exact ⟨by omega, fun r => by omega⟩
  · have e0 : me (bg - 1) = 0 := by
      rcases g5 with r | r
      · omega
      · exact r
    have e1 := gC_le (X := X) (Y := Y) (me := me) (bg := bg) (i := bg - 1) (by omega) (by omega)
    rw [e0] at e1
    have e2 := srt_cd_le hY (Nat.zero_le j) h2
    have e3 := srt_cd hX (show bg - 1 < i by omega) hi
    exact ⟨by omega, fun r => by omega⟩
theorem gK_sum {X Y : PL} {me : Nat → Nat} {c : Nat} : ∀ {bg : Nat}, gK X Y me c bg = sumN (fun i => if me i < Y.length ∧ cd X i + cd Y (me i) = c then cf X i * cf Y (me i) else 0) bg
  | 0 => rfl
  | bg + 1 => by
    rw [gK, sumN, ← gK_sum]
    split <;> omega
def left (X Y : PL) (me : Nat → Nat) : Int := sumN (fun i => ((Y.length - me i : Nat) : Int)) X.length
theorem sumN_le {f g : Nat → Int} {n : Nat} (h : ∀ i, i < n → f i ≤ g i) : sumN f n ≤ sumN g n := by
  induction n with
  | zero => exact Int.le_refl _
  | succ n ih =>
    have := ih (fun i hi => h i (by omega))
    have := h n (by omega)
    rw [sumN, sumN]; omega
theorem sumN_lt {f g : Nat → Int} {n k : Nat} (h : ∀ i, i < n → f i ≤ g i) (hk : k < n) (hl : f k < g k) : sumN f n < sumN g n := by
  induction n with
  | zero => omega
  | succ n ih =>
    have h1 := h n (by omega)
    rw [sumN, sumN]
    rcases Nat.lt_or_ge k n with q | q
    · have := ih (fun i hi => h i (by omega)) q
      omega
    · rw [show k = n by omega] at hl
      have := sumN_le (f := f) (g := g) (n := n) (fun i hi => h i (by omega))
      omega
theorem sumN_nn {f : Nat → Int} {n : Nat} (h : ∀ i, i < n → 0 ≤ f i) : 0 ≤ sumN f n := by
  have := sumN_le (f := fun _ => 0) (g := f) (n := n) h
  rw [sumN_zero (fun _ _ => rfl)] at this
  exact this
theorem sumN_pos {f : Nat → Int} {n : Nat} (h : ∀ i, i < n → 0 ≤ f i) (hs : sumN f n ≤ 0) : ∀ i, i < n → f i = 0 := by
  intro i hi
  apply Classical.byContradiction
  intro q
  have hf := h i hi
  have := sumN_lt (f := fun _ => 0) (g := f) (n := n) h hi (show (0 : Int) < f i by omega)
  rw [sumN_zero (fun _ _ => rfl)] at this
  omega
theorem mstr_ok {X Y : PL} (hX : Srt X) (hY : Srt Y) : ∀ (f : Nat) (me : Nat → Nat) (bg : Nat), MInv X Y me bg → left X Y me ≤ f → (∀ b : Nat, (∀ i j, i < X.length → me i ≤ j → j < Y.length → cd X i + cd Y j < b) → ∀ t ∈ mstr X Y f me bg, t.1 < b) ∧ Srt (mstr X Y f me bg) ∧ (∀ c, co (mstr X Y f me bg) c = pcR X Y me c) ∧ ∀ t ∈ mstr X Y f me bg, ∃ i j, i < X.length ∧ j < Y.length ∧ t.1 = cd X i + cd Y j
  | 0, me, bg, hM, hf => by
    have hz := sumN_pos (f := fun i => ((Y.length - me i : Nat) : Int)) (n := X.length) (fun i _ => by omega) hf
    refine ⟨fun b _ t h => (by cases h), srt_nil, fun c => ?_, fun t h => (by cases h)⟩
    unfold pcR
    rw [sumN_zero]
    · rfl
    · intro i hi
      apply pr1_zero
      intro j h1 h2
      have h3 : ((Y.length - me i : Nat) : Int) = 0 := hz i hi
      omega
  | f + 1, me, bg, hM, hf => by
    rw [mstr]
    by_cases hg : gC X Y me bg < 0
    · rw [if_pos hg]
      have hno : ∀ i j, i < X.length → me i ≤ j → j < Y.length → False := by
        intro i j h1 h2 h3
        have := (gC_all hX hY hM h1 h2 h3).1
        omega
      refine ⟨fun b _ t h => (by cases h), srt_nil, fun c => ?_, fun t h => (by cases h)⟩
      unfold pcR
      rw [sumN_zero]
      · rfl
      · intro i hi
        apply pr1_zero
        intro j h1 h2
        exact absurd (hno i j hi h1 h2) id
    · rw [if_neg hg]
      obtain ⟨c0, hc0⟩ : ∃ c0, c0 = (gC X Y me bg).toNat := ⟨_, rfl⟩
      have hcg : (c0 : Int) = gC X Y me bg := by rw [hc0]; omega
      rw [← hc0]
      obtain ⟨me', hme'⟩ : ∃ me', me' = gM X Y me c0 bg := ⟨_, rfl⟩
      rw [← hme']
      have hM0 := hM
      obtain ⟨g1, g2, g3, g4, g5⟩ := hM
      have hall : ∀ i j, i < X.length → me i ≤ j → j < Y.length → cd X i + cd Y j ≤ c0 ∧ (bg ≤ i → cd X i + cd Y j < c0) := by
        intro i j h1 h2 h3
        have := gC_all hX hY hM0 h1 h2 h3
        omega
      have hge : ∀ i, me i ≤ me' i := by
        intro i
        rw [hme']; unfold gM
        split <;> omega
      have hlow : ∀ i, bg ≤ i → me' i = me i := by
        intro i hi
        rw [hme']; unfold gM
        rw [if_neg (by omega)]
      have hhit : ∀ i, i < bg → me i < Y.length → cd X i + cd Y (me i) = c0 → me' i = me i + 1 := by
        intro i h1 h2 h3
        rw [hme']; unfold gM
        rw [if_pos ⟨h1, h2, h3⟩]
      have hmis : ∀ i, ¬ (i < bg ∧ me i < Y.length ∧ cd X i + cd Y (me i) = c0) → me' i = me i := by
        intro i h
        rw [hme']; unfold gM
        rw [if_neg h]
      have hM' : MInv X Y me' (if bg < X.length ∧ 0 < me' (bg - 1) then bg + 1 else bg) := by
        have q3 : ∀ i, i < X.length → me' i ≤ Y.length := by
          intro i hi
          have := g3 i hi
          rw [hme']; unfold gM
          split <;> omega
        split
        · rename_i h
          refine ⟨by omega, by omega, q3, fun i h1 h2 => by rw [hlow i (by omega)]; exact g4 i (by omega) h2, Or.inr ?_⟩
          rw [show bg + 1 - 1 = bg by omega, hlow bg (Nat.le_refl _)]
          exact g4 bg (Nat.le_refl _) h.1
        · rename_i h
          refine ⟨g1, g2, q3, fun i h1 h2 => by rw [hlow i h1]; exact g4 i h1 h2, ?_⟩
          rcases Nat.lt_or_ge bg X.length with r | r
          · exact Or.inr (by omega)
          · exact Or.inl (by omega)
      have hrest : ∀ i j, i < X.length → me' i ≤ j → j < Y.length → cd X i + cd Y j < c0 := by
        intro i j h1 h2 h3
        have h4 := hge i
        have h5 := hall i j h1 (by omega) h3
        rcases Nat.lt_or_ge i bg with q | q
        · rcases Nat.lt_or_ge (cd X i + cd Y j) c0 with r | r
          · exact r
          · have e1 : me i < Y.length := by omega
            have e2 := (hall i (me i) h1 (Nat.le_refl _) e1).1
            have e3 := srt_cd_le hY (show me i ≤ j by omega) h3
            have e4 := hhit i q e1 (by omega)
            have e5 := srt_cd hY (show me i < j by omega) h3
            omega
        · exact h5.2 q
      have hlt : left X Y me' < left X Y me := by
        rcases gC_is (X := X) (Y := Y) (me := me) (bg := bg) with e | ⟨i, h1, h2, e⟩
        · omega
        · refine sumN_lt (k := i) (fun k _ => ?_) (by omega) ?_
          · have := hge k
            show ((Y.length - me' k : Nat) : Int) ≤ ((Y.length - me k : Nat) : Int)
            omega
          · have := hhit i h1 h2 (by omega)
            show ((Y.length - me' i : Nat) : Int) < ((Y.length - me i : Nat) : Int)
            omega
      obtain ⟨i1, i2, i3, i4⟩ := mstr_ok hX hY f me' _ hM' (by omega)
      refine ⟨fun b hb t ht => ?_, srt_cons.mpr ⟨fun t ht => i1 c0 hrest t ht, i2⟩, fun c => ?_, fun t ht => ?_⟩
      · rcases List.mem_cons.mp ht with rfl | ht
        · rcases gC_is (X := X) (Y := Y) (me := me) (bg := bg) with e | ⟨i, h1, h2, e⟩
          · omega
          · have := hb i (me i) (by omega) (Nat.le_refl _) h2
            show c0 < b
            omega
        · exact i1 b (fun i j h1 h2 h3 => hb i j h1 (Nat.le_trans (hge i) h2) h3) t ht
      · rw [co, i3]
        unfold pcR
        by_cases hc : c0 = c
        · subst hc
          rw [if_pos rfl, sumN_zero (f := fun i => pr1 (cd X i, cf X i) (Y.drop (me' i)) c0), Int.add_zero, gK_sum]
          · symm
            rw [sumN_cut g2]
            · apply sumN_congr
              intro i hi
              have hi' : i < X.length := by omega
              by_cases q : me i < Y.length
              · rw [pr1_at q]
                have : pr1 (cd X i, cf X i) (Y.drop (me i + 1)) c0 = 0 := by
                  apply pr1_zero
                  intro j h1 h2
                  have e1 := (hall i (me i) hi' (Nat.le_refl _) q).1
                  have e2 := srt_cd hY (show me i < j by omega) h2
                  show cd X i + cd Y j ≠ c0
                  omega
                rw [this, Int.add_zero]
                by_cases r : cd X i + cd Y (me i) = c0
                · rw [if_pos r, if_pos ⟨q, r⟩]
                · rw [if_neg r, if_neg (fun z => r z.2)]
              · rw [if_neg (fun z => q z.1)]
                apply pr1_zero
                intro j h1 h2
                omega
            · intro i h1 h2
              apply pr1_zero
              intro j h3 h4
              have := (hall i j h2 h3 h4).2 h1
              show cd X i + cd Y j ≠ c0
              omega
          · intro i hi
            apply pr1_zero
            intro j h1 h2
            have := hrest i j hi h1 h2
            show cd X i + cd Y j ≠ c0
            omega
        · rw [if_neg hc, Int.zero_add]
          apply sumN_congr
          intro i hi
          by_cases q : i < bg ∧ me i < Y.length ∧ cd X i + cd Y (me i) = c0
          · rw [hhit i q.1 q.2.1 q.2.2, pr1_at q.2.1, if_neg (by show cd X i + cd Y (me i) ≠ c; omega), Int.zero_add]
          · rw [hmis i q]
      · rcases List.mem_cons.mp ht with rfl | ht
        · rcases gC_is (X := X) (Y := Y) (me := me) (bg := bg) with e | ⟨i, h1, h2, e⟩
          · omega
          · exact ⟨i, me i, by omega, h2, by show c0 = _; omega⟩
        · exact i4 t ht
/-- the whole product, in order, before it is cut -/
def fp (X Y : PL) : PL := nz (mstr X Y (X.length * Y.length) (fun _ => 0) 1)
theorem left_0 (X Y : PL) : left X Y (fun _ => 0) = ((X.length * Y.length : Nat) : Int) := by
  unfold left
  generalize X.length = n
  induction n with
  | zero => simp [sumN]
  | succ n ih => rw [sumN, ih, Nat.succ_mul]; simp
theorem fp_ok {X Y : PL} (hX : Srt X) (hY : Srt Y) (h0 : 0 < X.length) : Srt (fp X Y) ∧ (∀ t ∈ fp X Y, t.2 ≠ 0) ∧ (∀ c, co (fp X Y) c = pc X Y c) ∧ ∀ t ∈ fp X Y, ∃ i j, i < X.length ∧ j < Y.length ∧ t.1 = cd X i + cd Y j := by
  have hM : MInv X Y (fun _ => 0) 1 := ⟨Nat.le_refl _, h0, fun _ _ => Nat.zero_le _, fun _ _ _ => rfl, Or.inr rfl⟩
  obtain ⟨-, i2, i3, i4⟩ := mstr_ok hX hY (X.length * Y.length) _ 1 hM (by rw [left_0]; exact Int.le_refl _)
  exact ⟨srt_nz i2, nz_ne, fun c => by rw [fp, co_nz, i3, pcR_0], fun t ht => i4 t (List.mem_filter.mp ht).1⟩
theorem mrg_fp {X Y : PL} : mrg X Y (X.length * Y.length) [] (fun _ => 0) 1 = cut 60 (fp X Y) := by
  rw [mrg_str, appAll_eq (Nat.zero_le _) rfl]; rfl
theorem pr1_swap (t s : Nat × Int) (c : Nat) : (if t.1 + s.1 = c then t.2 * s.2 else 0) = (if s.1 + t.1 = c then s.2 * t.2 else 0) := by
  rw [Nat.add_comm, Int.mul_comm]
theorem pc_nil (X : PL) (c : Nat) : pc X [] c = 0 := by
  induction X with
  | nil => rfl
  | cons t X ih => rw [pc, ih]; rfl
theorem pc_cons (X : PL) (s : Nat × Int) (Y : PL) (c : Nat) : pc X (s :: Y) c = pr1 s X c + pc X Y c := by
  induction X with
  | nil => rfl
  | cons t X ih => rw [pc, pc, ih, pr1, pr1, pr1_swap]; omega
theorem pc_comm (X Y : PL) (c : Nat) : pc X Y c = pc Y X c := by
  induction Y with
  | nil => rw [pc_nil]; rfl
  | cons s Y ih => rw [pc_cons, ih, pc]
theorem pc_ne {X Y : PL} {c : Nat} (h : pc X Y c ≠ 0) : ∃ t ∈ X, ∃ s ∈ Y, t.1 + s.1 = c := by
  induction X with
  | nil => exact absurd rfl h
  | cons t X ih =>
    rw [pc] at h
    by_cases q : pr1 t Y c = 0
    · rw [q] at h
      obtain ⟨u, hu, s, hs, e⟩ := ih (by omega)
      exact ⟨u, List.mem_cons_of_mem _ hu, s, hs, e⟩
    · apply Classical.byContradiction
      intro r
      exact q (pr1_out (fun s hs e => r ⟨t, List.mem_cons_self, s, hs, e⟩))
theorem fp_comm {X Y : PL} (hX : Srt X) (hY : Srt Y) (h0 : 0 < X.length) (h1 : 0 < Y.length) : fp X Y = fp Y X := by
  obtain ⟨a1, a2, a3, -⟩ := fp_ok hX hY h0
  obtain ⟨b1, b2, b3, -⟩ := fp_ok hY hX h1
  exact srt_uniq a1 a2 b1 b2 (fun c => by rw [a3, b3, pc_comm])
