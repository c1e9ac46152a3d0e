/-! ===== codes: sixteen digits and their sum ===== -/
def dp (p c : Nat) : Nat := c / 10 ^ p % 10
theorem dig_dp (c t : Nat) : dig c t = dp (15 - t) c := rfl
theorem dp_lt (p c : Nat) : dp p c < 10 := Nat.mod_lt _ (by decide)
/-- the sum of the last n digits -/
def dsm (c : Nat) : Nat → Nat
  | 0 => 0
  | n + 1 => dsm c n + dp n c
/-- a code: the sum of its sixteen digits stands ahead of them -/
def vC (c : Nat) : Prop := c / 10 ^ 16 = dsm c 16
theorem dsm_le (c : Nat) : ∀ n, dsm c n ≤ 9 * n
  | 0 => Nat.le_refl _
  | n + 1 => by
    have h1 := dsm_le c n
    have h2 := dp_lt n c
    rw [dsm]; omega
theorem vC_lt {c : Nat} (h : vC c) : c < 1460000000000000000 := by
  have h1 := dsm_le c 16
  unfold vC at h
  have h2 : c / 10000000000000000 ≤ 144 := by
    have : (10 : Nat) ^ 16 = 10000000000000000 := by decide
    rw [this] at h
    omega
  omega
theorem pow10_succ (p : Nat) : (10 : Nat) ^ (p + 1) = 10 ^ p * 10 := Nat.pow_succ 10 p
/-- no carry: the heads are added -/
theorem add_hd {a b : Nat} : ∀ {p : Nat}, (∀ q, q < p → dp q a + dp q b ≤ 9) → (a + b) / 10 ^ p = a / 10 ^ p + b / 10 ^ p
  | 0, _ => by simp
  | p + 1, h => by
    have ih := add_hd (p := p) (fun q hq => h q (by omega))
    have hp := h p (by omega)
    unfold dp at hp
    rw [pow10_succ, ← Nat.div_div_eq_div_mul, ← Nat.div_div_eq_div_mul, ← Nat.div_div_eq_div_mul, ih]
    omega
theorem add_dp {a b p : Nat} (h : ∀ q, q ≤ p → dp q a + dp q b ≤ 9) : dp p (a + b) = dp p a + dp p b := by
  have h1 := add_hd (p := p) (fun q hq => h q (by omega))
  have h2 := h p (Nat.le_refl _)
  unfold dp at h2 ⊢
  rw [h1]
  omega
theorem add_dsm {a b : Nat} : ∀ {n : Nat}, (∀ q, q < n → dp q a + dp q b ≤ 9) → dsm (a + b) n = dsm a n + dsm b n
  | 0, _ => rfl
  | n + 1, h => by
    rw [dsm, dsm, dsm, add_dsm (fun q hq => h q (by omega)), add_dp (fun q hq => h q (by omega))]
    omega
theorem add_vC {a b : Nat} (ha : vC a) (hb : vC b) (h : ∀ q, q < 16 → dp q a + dp q b ≤ 9) : vC (a + b) := by
  unfold vC at ha hb ⊢
  rw [add_hd h, add_dsm h, ha, hb]
theorem add_dig {a b : Nat} (h : ∀ u, u < 16 → dig a u + dig b u ≤ 9) (u : Nat) : dig (a + b) u = dig a u + dig b u := by
  rw [dig_dp, dig_dp, dig_dp]
  apply add_dp
  intro q hq
  have := h (15 - q) (by omega)
  rw [dig_dp, dig_dp, show 15 - (15 - q) = q by omega] at this
  exact this
theorem dp_of_dig {a b : Nat} (h : ∀ u, u < 16 → dig a u + dig b u ≤ 9) : ∀ q, q < 16 → dp q a + dp q b ≤ 9 := by
  intro q hq
  have := h (15 - q) (by omega)
  rw [dig_dp, dig_dp, show 15 - (15 - q) = q by omega] at this
  exact this
/-- what a poly is -/
def okP (L : PL) : Prop := Srt L ∧ L.length ≤ 60 ∧ ∀ t ∈ L, vC t.1 ∧ t.2 ≠ 0 ∧ -99999999 ≤ t.2 ∧ t.2 ≤ 99999999
theorem okP.ok {L : PL} (h : okP L) : okL L := fun j hj => by
  have h1 := h.2.2 _ (cd_mem hj)
  have h2 := vC_lt h1.1
  refine ⟨?_, h1.2⟩
  show cd L j < _
  have h3 : cd L j < 1460000000000000000 := h2
  omega
theorem okP_nil : okP [] := ⟨srt_nil, Nat.zero_le _, fun t h => (by cases h)⟩
theorem top_ge {L : PL} {t : Nat × Int} (u : Nat) (h : t ∈ L) : dig t.1 u ≤ top L u := by
  have key : ∀ (L : PL) (m : Nat), m ≤ L.foldl (fun m x => max m (dig x.1 u)) m ∧ ∀ t ∈ L, dig t.1 u ≤ L.foldl (fun m x => max m (dig x.1 u)) m := by
    intro L
    induction L with
    | nil => intro m; exact ⟨Nat.le_refl _, fun t h => (by cases h)⟩
    | cons s L ih =>
      intro m
      have h1 := ih (max m (dig s.1 u))
      refine ⟨Nat.le_trans (Nat.le_max_left _ _) h1.1, fun t ht => ?_⟩
      rcases List.mem_cons.mp ht with rfl | ht
      · exact Nat.le_trans (Nat.le_max_right _ _) h1.1
      · exact h1.2 t ht
  exact (key L 0).2 t h
theorem top_is {L : PL} (u : Nat) (h : L ≠ []) : ∃ t ∈ L, dig t.1 u = top L u := by
  have key : ∀ (L : PL) (m : Nat), L.foldl (fun m x => max m (dig x.1 u)) m = m ∨ ∃ t ∈ L, dig t.1 u = L.foldl (fun m x => max m (dig x.1 u)) m := by
    intro L
    induction L with
    | nil => intro m; exact Or.inl rfl
    | cons s L ih =>
      intro m
      rcases ih (max m (dig s.1 u)) with e | ⟨t, ht, e⟩
      · rcases Nat.le_total m (dig s.1 u) with q | q
        · refine Or.inr ⟨s, List.mem_cons_self, ?_⟩
          show dig s.1 u = L.foldl (fun m x => max m (dig x.1 u)) (max m (dig s.1 u))
          rw [e]; omega
        · refine Or.inl ?_
          show L.foldl (fun m x => max m (dig x.1 u)) (max m (dig s.1 u)) = m
          rw [e]; omega
      · exact Or.inr ⟨t, List.mem_cons_of_mem _ ht, e⟩
  rcases key L 0 with e | e
  · cases L with
    | nil => exact absurd rfl h
    | cons s L =>
      refine ⟨s, List.mem_cons_self, ?_⟩
      have h1 := top_ge (L := s :: L) u (t := s) List.mem_cons_self
      unfold top at h1 ⊢
      omega
  · exact e
theorem top_le {L : PL} {u m : Nat} (h : ∀ t ∈ L, dig t.1 u ≤ m) (h0 : L ≠ []) : top L u ≤ m := by
  obtain ⟨t, ht, e⟩ := top_is u h0
  rw [← e]; exact h t ht
/-- of the terms with the greatest power of u, that with the greatest code -/
theorem top_lead {L : PL} (u : Nat) (h : L ≠ []) : ∃ t ∈ L, dig t.1 u = top L u ∧ ∀ s ∈ L, dig s.1 u = top L u → s.1 ≤ t.1 := by
  have key : ∀ (M : PL), (∃ t ∈ M, dig t.1 u = top L u) → ∃ t ∈ M, dig t.1 u = top L u ∧ ∀ s ∈ M, dig s.1 u = top L u → s.1 ≤ t.1 := by
    intro M
    induction M with
    | nil => rintro ⟨t, ht, _⟩; cases ht
    | cons a M ih =>
      rintro ⟨t, ht, e⟩
      by_cases q : ∃ t ∈ M, dig t.1 u = top L u
      · obtain ⟨b, hb, e1, e2⟩ := ih q
        by_cases r : dig a.1 u = top L u ∧ b.1 < a.1
        · refine ⟨a, List.mem_cons_self, r.1, fun s hs hd => ?_⟩
          rcases List.mem_cons.mp hs with rfl | hs
          · exact Nat.le_refl _
          · have := e2 s hs hd
            omega
        · refine ⟨b, List.mem_cons_of_mem _ hb, e1, fun s hs hd => ?_⟩
          rcases List.mem_cons.mp hs with rfl | hs
          · rcases Nat.lt_or_ge b.1 s.1 with z | z
            · exact absurd ⟨hd, z⟩ r
            · exact z
          · exact e2 s hs hd
      · refine ⟨a, List.mem_cons_self, ?_, fun s hs hd => ?_⟩
        · rcases List.mem_cons.mp ht with rfl | ht
          · exact e
          · exact absurd ⟨t, ht, e⟩ q
        · rcases List.mem_cons.mp hs with rfl | hs
          · exact Nat.le_refl _
          · exact absurd ⟨s, hs, hd⟩ q
  exact key L (top_is u h)
theorem pr1_one {t s : Nat × Int} {Y : PL} {c : Nat} (hY : Srt Y) (hs : s ∈ Y) (h : t.1 + s.1 = c) : pr1 t Y c = t.2 * s.2 := by
  induction Y with
  | nil => cases hs
  | cons a Y ih =>
    obtain ⟨h1, h2⟩ := srt_cons.mp hY
    rcases List.mem_cons.mp hs with rfl | hs
    · rw [pr1, if_pos h, pr1_out (fun b hb => by have := h1 b hb; omega)]; omega
    · rw [pr1, if_neg (by have := h1 s hs; omega), ih h2 hs]; omega
theorem pc_one {X Y : PL} {t s : Nat × Int} {c : Nat} (hX : Srt X) (hY : Srt Y) (ht : t ∈ X) (hs : s ∈ Y) (h : t.1 + s.1 = c) (hu : ∀ a ∈ X, ∀ b ∈ Y, a.1 + b.1 = c → a.1 = t.1) : pc X Y c = t.2 * s.2 := by
  induction X with
  | nil => cases ht
  | cons a X ih =>
    obtain ⟨h1, h2⟩ := srt_cons.mp hX
    rw [pc]
    rcases List.mem_cons.mp ht with rfl | ht
    · rw [pr1_one hY hs h]
      have : pc X Y c = 0 := by
        apply Classical.byContradiction
        intro q
        obtain ⟨x, hx, y, hy, e⟩ := pc_ne q
        have e1 := hu x (List.mem_cons_of_mem _ hx) y hy e
        have e2 := h1 x hx
        omega
      omega
    · have h0 : pr1 a Y c = 0 := pr1_out (fun b hb e => by
        have e1 := hu a List.mem_cons_self b hb e
        have e2 := h1 t ht
        omega)
      rw [h0, ih h2 ht (fun x hx => hu x (List.mem_cons_of_mem _ hx))]
      omega
/-- the tops of a product: whole numbers have no divisors of nought -/
theorem top_fp {X Y : PL} (hX : okP X) (hY : okP Y) (h0 : 0 < X.length) (h1 : 0 < Y.length) (hd : ∀ u, u < 16 → top X u + top Y u ≤ 9) {u : Nat} (hu : u < 16) : top (fp X Y) u = top X u + top Y u := by
  obtain ⟨f1, f2, f3, f4⟩ := fp_ok hX.1 hY.1 h0
  have nX : X ≠ [] := by intro e; rw [e] at h0; exact absurd h0 (Nat.lt_irrefl 0)
  have nY : Y ≠ [] := by intro e; rw [e] at h1; exact absurd h1 (Nat.lt_irrefl 0)
  have hsum : ∀ a ∈ X, ∀ b ∈ Y, dig (a.1 + b.1) u = dig a.1 u + dig b.1 u := by
    intro a ha b hb
    apply add_dig
    intro v hv
    have := hd v hv
    have := top_ge v ha
    have := top_ge v hb
    omega
  obtain ⟨a, ha, ea, la⟩ := top_lead u nX
  obtain ⟨b, hb, eb, lb⟩ := top_lead u nY
  have hone : pc X Y (a.1 + b.1) = a.2 * b.2 := by
    refine pc_one hX.1 hY.1 ha hb rfl (fun x hx y hy e => ?_)
    have e1 := hsum x hx y hy
    have e2 := hsum a ha b hb
    rw [e, e2] at e1
    have e3 := top_ge u hx
    have e4 := top_ge u hy
    have e5 := la x hx (by omega)
    have e6 := lb y hy (by omega)
    omega
  have hne : co (fp X Y) (a.1 + b.1) ≠ 0 := by
    rw [f3, hone]
    exact Int.mul_ne_zero (hX.2.2 a ha).2.1 (hY.2.2 b hb).2.1
  obtain ⟨t, ht, et⟩ := co_ne hne
  apply Nat.le_antisymm
  · refine top_le (fun s hs => ?_) (fun e => by rw [e] at ht; cases ht)
    obtain ⟨i, j, hi, hj, e⟩ := f4 s hs
    have e1 := hsum _ (cd_mem hi) _ (cd_mem hj)
    have e2 := top_ge u (cd_mem hi)
    have e3 := top_ge u (cd_mem hj)
    rw [e]
    show dig (cd X i + cd Y j) u ≤ _
    have e4 : dig (cd X i + cd Y j) u = dig (cd X i) u + dig (cd Y j) u := e1
    have e5 : dig (cd X i) u ≤ top X u := e2
    have e6 : dig (cd Y j) u ≤ top Y u := e3
    omega
  · have e1 := top_ge u ht
    rw [et, hsum a ha b hb] at e1
    omega
theorem fp_ne {X Y : PL} (hX : okP X) (hY : okP Y) (h0 : 0 < X.length) (h1 : 0 < Y.length) (hd : ∀ u, u < 16 → top X u + top Y u ≤ 9) {M : PL} (hc : cut 60 (fp X Y) = some M) : okP M := by
  obtain ⟨f1, f2, f3, f4⟩ := fp_ok hX.1 hY.1 h0
  obtain ⟨rfl, c1, c2⟩ := cut_some hc
  refine ⟨f1, c1, fun t ht => ⟨?_, f2 t ht, c2 t ht⟩⟩
  obtain ⟨i, j, hi, hj, e⟩ := f4 t ht
  rw [e]
  refine add_vC (hX.2.2 _ (cd_mem hi)).1 (hY.2.2 _ (cd_mem hj)).1 (dp_of_dig (fun v hv => ?_))
  have a1 := hd v hv
  have a2 := top_ge v (cd_mem hi)
  have a3 := top_ge v (cd_mem hj)
  show dig (cd X i) v + dig (cd Y j) v ≤ 9
  have a4 : dig (cd X i) v ≤ top X v := a2
  have a5 : dig (cd Y j) v ≤ top Y v := a3
  omega
/-- the product; none: too big -/
def pmul (X Y : PL) : Option PL := if X.length = 0 ∨ Y.length = 0 then some [] else if (List.range 16).any (fun u => decide (9 < top X u + top Y u)) = true then none else cut 60 (fp X Y)
theorem far_iff {X Y : PL} : (List.range 16).any (fun u => decide (9 < top X u + top Y u)) = true ↔ ∃ u, u < 16 ∧ 9 < top X u + top Y u := by
  rw [List.any_eq_true]
  constructor
  · rintro ⟨u, h1, h2⟩
    exact ⟨u, List.mem_range.mp h1, of_decide_eq_true h2⟩
  · rintro ⟨u, h1, h2⟩
    exact ⟨u, List.mem_range.mpr h1, decide_eq_true h2⟩
theorem pmul_nil {X Y : PL} (h : X.length = 0 ∨ Y.length = 0) : pmul X Y = some [] := by rw [pmul, if_pos h]
theorem pmul_far {X Y : PL} (h0 : 0 < X.length) (h1 : 0 < Y.length) (h : ∃ u, u < 16 ∧ 9 < top X u + top Y u) : pmul X Y = none := by
  rw [pmul, if_neg (by omega), if_pos (far_iff.mpr h)]
theorem pmul_cut {X Y : PL} (h0 : 0 < X.length) (h1 : 0 < Y.length) (h : ∀ u, u < 16 → top X u + top Y u ≤ 9) : pmul X Y = cut 60 (fp X Y) := by
  rw [pmul, if_neg (by omega), if_neg]
  intro q
  obtain ⟨u, h2, h3⟩ := far_iff.mp q
  have := h u h2
  omega
theorem pmul_ok {X Y M : PL} (hX : okP X) (hY : okP Y) (h : pmul X Y = some M) : okP M := by
  unfold pmul at h
  split at h
  · cases h; exact okP_nil
  · split at h
    · cases h
    · rename_i h0 h1
      refine fp_ne hX hY (by omega) (by omega) (fun u hu => ?_) h
      rcases Nat.lt_or_ge 9 (top X u + top Y u) with q | q
      · exact absurd (far_iff.mpr ⟨u, hu, q⟩) h1
      · exact q
/-- the sum with a sign; none: too big -/
def padd (sg : Int) (X Y : PL) : Option PL := tsum 60 sg (X.length + Y.length) [] X Y
theorem padd_cut (sg : Int) (X Y : PL) : padd sg X Y = cut 60 (nz (tstr sg (X.length + Y.length) X Y)) := by
  rw [padd, tsum_str, appAll_eq (Nat.zero_le _) rfl]; rfl
theorem padd_ok {sg : Int} {X Y M : PL} (hX : okP X) (hY : okP Y) (h : padd sg X Y = some M) : okP M := by
  rw [padd_cut] at h
  obtain ⟨-, i2, i3, i4⟩ := tstr_ok sg (X.length + Y.length) X Y hX.1 hY.1 (Nat.le_refl _)
  obtain ⟨rfl, c1, c2⟩ := cut_some h
  refine ⟨srt_nz i2, c1, fun t ht => ⟨?_, nz_ne t ht, c2 t ht⟩⟩
  rcases i4 t (List.mem_filter.mp ht).1 with ⟨s, hs, e⟩ | ⟨s, hs, e⟩
  · rw [← e]; exact (hX.2.2 s hs).1
  · rw [← e]; exact (hY.2.2 s hs).1
