def SlotsOK (ma : Nat → Int32) (gc gh gl : Nat → Int64) (Sl : Nat → PL) : Prop := ∀ z, z < 62 → okP (Sl z) ∧ ma z = nI (Sl z).length ∧ ∀ j, j < (Sl z).length → gc (60 * z + j) = lI (cf (Sl z) j) ∧ gh (60 * z + j) = lN (hiC (cd (Sl z) j)) ∧ gl (60 * z + j) = lN (loC (cd (Sl z) j))
def rng (v : Int64) : Prop := ¬ lI 99999999 < v ∧ ¬ v < lI (-99999999)
theorem rng_iff {z : Int} (h : -4611686018427387904 ≤ z ∧ z < 4611686018427387904) : rng (lI z) ↔ (-99999999 ≤ z ∧ z ≤ 99999999) := by
  unfold rng
  rw [lI_lt (by omega) (by omega), lI_lt (by omega) (by omega)]
  omega
def CInv (fc fh fl : Nat → Int64) (F : Nat → Int) (m i k : Nat) : Prop := ∃ A : Ar, Area fc fh fl A m ∧ (∀ c, sA A m c = F c) ∧ (∀ x, x < k → (A x).2 ≠ 0) ∧ ∀ x, k ≤ x → x < i → (A x).2 = 0
section TO
variable {fc fh fl : Nat → Int64} {F : Nat → Int} {m i k : Nat} {big g : Int32} {A : Ar}
theorem CInv.skip (h : CInv fc fh fl F m i k) (hi : i < m) (hz : fc i = lI 0) : CInv fc fh fl F m (i + 1) k := by
  obtain ⟨A, h1, h2, h3, h4⟩ := h
  refine ⟨A, h1, h2, h3, fun x hx hx2 => ?_⟩
  rcases Nat.lt_or_ge x i with q | q
  · exact h4 x hx q
  · have e : x = i := by omega
    subst e
    have := h1.2.2 x hi
    rw [(h1.1 x hi).1] at hz
    exact (lI_eq (by omega) (by omega)).mp hz
theorem CInv.swap (h : CInv fc fh fl F m i k) (hi : i < m) (hk : k ≤ i) (hz : fc i ≠ lI 0) : CInv (swF fc i k) (swF fh i k) (swF fl i k) F m (i + 1) (k + 1) := by
  obtain ⟨A, h1, h2, h3, h4⟩ := h
  refine ⟨swA A i k, h1.sw hi (by omega), fun c => by rw [sA_sw hi (by omega)]; exact h2 c, fun x hx => ?_, fun x hx hx2 => ?_⟩
  · unfold swA
    by_cases q : x = i
    · rw [if_pos q]
      have e : k = i := by omega
      rw [e]
      intro z
      exact hz (by rw [(h1.1 i hi).1, z])
    · rw [if_neg q]
      by_cases r : x = k
      · rw [if_pos r]
        intro z
        exact hz (by rw [(h1.1 i hi).1, z])
      · rw [if_neg r]
        exact h3 x (by omega)
  · unfold swA
    by_cases q : x = i
    · rw [if_pos q]
      exact h4 k (Nat.le_refl _) (by omega)
    · rw [if_neg q, if_neg (by omega)]
      exact h4 x (by omega) (by omega)
def GI (big : Int32) (k i : Nat) (fc : Nat → Int64) (g : Int32) : Prop := (g = nI 1 ∧ big = 0 ∧ k ≤ 60 ∧ ∀ x, x < i → rng (fc x)) ∨ (g = nI 0 ∧ (big ≠ 0 ∨ 60 < k ∨ ∃ x, x < k ∧ ¬ rng (fc x)))
theorem GI_s0 (h : GI big k i fc g) (hg : g = 0) : GI big k (i + 1) fc (nI 0) := by
  rcases h with ⟨e, _⟩ | ⟨_, h⟩
  · rw [e] at hg; exact absurd hg (by decide)
  · exact Or.inr ⟨rfl, h⟩
theorem GI_s1 (h : GI big k i fc g) (hg : g ≠ 0) (hi : i < k) (hb : lI 99999999 < fc i) : GI big k (i + 1) fc (nI 0) := Or.inr ⟨rfl, Or.inr (Or.inr ⟨i, hi, fun q => q.1 hb⟩)⟩
theorem GI_s2 (h : GI big k i fc g) (hg : g ≠ 0) (hi : i < k) (hb : fc i < lI (-99999999)) : GI big k (i + 1) fc (nI 0) := Or.inr ⟨rfl, Or.inr (Or.inr ⟨i, hi, fun q => q.2 hb⟩)⟩
theorem GI_s3 (h : GI big k i fc g) (hg : g ≠ 0) (hb : rng (fc i)) : GI big k (i + 1) fc (nI 1) := by
  rcases h with ⟨_, h1, h2, h3⟩ | ⟨e, _⟩
  · exact Or.inl ⟨rfl, h1, h2, lt_s h3 hb⟩
  · exact absurd e hg
theorem GI_1 (h : GI big k i fc g) (hg : g ≠ 0) : big = 0 ∧ k ≤ 60 ∧ ∀ x, x < i → rng (fc x) := by
  rcases h with ⟨_, h⟩ | ⟨e, _⟩
  · exact h
  · exact absurd e hg
theorem GI_0 (h : GI big k i fc g) (hg : g = 0) (hb : big = 0) : 60 < k ∨ ∃ x, x < k ∧ ¬ rng (fc x) := by
  rcases h with ⟨e, _⟩ | ⟨_, h⟩
  · rw [e] at hg; exact absurd hg (by decide)
  · rcases h with h | h
    · exact absurd hb h
    · exact h
theorem GI_no {Q : Prop} (h : GI big k i fc g) (hg : g ≠ 0) (hn : big ≠ 0 ∨ 60 < k) : Q := by
  obtain ⟨h1, h2, _⟩ := GI_1 h hg
  rcases hn with e | e
  · exact absurd h1 e
  · omega
def SInv (fc fh fl : Nat → Int64) (F : Nat → Int) (A : Ar) (k i : Nat) : Prop := Area fc fh fl A k ∧ (∀ c, sA A k c = F c) ∧ (∀ x, x < k → (A x).2 ≠ 0) ∧ ∀ x y, x < y → y < i → y < k → (A y).1 < (A x).1
def SIn (fc fh fl : Nat → Int64) (F : Nat → Int) (A : Ar) (k i j : Nat) : Prop := Area fc fh fl A k ∧ (∀ c, sA A k c = F c) ∧ (∀ x, x < k → (A x).2 ≠ 0) ∧ (∀ x y, x < y → y ≤ i → x ≠ j → y ≠ j → (A y).1 < (A x).1) ∧ ∀ y, j < y → y ≤ i → (A y).1 < (A j).1
theorem SInv.inn (h : SInv fc fh fl F A k i) (hi : i < k) : SIn fc fh fl F A k i i := by
  obtain ⟨h1, h2, h3, h4⟩ := h
  exact ⟨h1, h2, h3, fun x y hxy hy _ hn => h4 x y hxy (by omega) (by omega), fun y h5 h6 => by omega⟩
theorem SIn.out0 (h : SIn fc fh fl F A k i 0) (hi : i < k) : SInv fc fh fl F A k (i + 1) := by
  obtain ⟨h1, h2, h3, h4, h5⟩ := h
  refine ⟨h1, h2, h3, fun x y hxy hy _ => ?_⟩
  by_cases q : x = 0
  · subst q; exact h5 y hxy (by omega)
  · exact h4 x y hxy (by omega) q (by omega)
theorem SIn.out1 {j : Nat} (h : SIn fc fh fl F A k i j) (hj : 0 < j) (hji : j ≤ i) (hi : i < k) (hq : ¬ (A (j - 1)).1 < (A j).1) : SInv fc fh fl F A k (i + 1) := by
  obtain ⟨h1, h2, h3, h4, h5⟩ := h
  have hne : (A (j - 1)).1 ≠ (A j).1 := fun e => by
    have := h1.2.1 (j - 1) j (by omega) (by omega) e
    omega
  refine ⟨h1, h2, h3, fun x y hxy hy _ => ?_⟩
  by_cases q : x = j
  · subst q; exact h5 y hxy (by omega)
  · by_cases r : y = j
    · subst r
      by_cases u : x = y - 1
      · subst u; omega
      · have := h4 x (y - 1) (by omega) (by omega) q (by omega)
        omega
    · exact h4 x y hxy (by omega) q r
theorem SIn.sw {j : Nat} (h : SIn fc fh fl F A k i j) (hj : 0 < j) (hji : j ≤ i) (hi : i < k) (hq : (A (j - 1)).1 < (A j).1) : SIn (swF fc j (j - 1)) (swF fh j (j - 1)) (swF fl j (j - 1)) F (swA A j (j - 1)) k i (j - 1) := by
  obtain ⟨h1, h2, h3, h4, h5⟩ := h
  have sj : swA A j (j - 1) j = A (j - 1) := by unfold swA; rw [if_pos rfl]
  have sp : swA A j (j - 1) (j - 1) = A j := by unfold swA; rw [if_neg (by omega), if_pos rfl]
  have so : ∀ x, x ≠ j → x ≠ j - 1 → swA A j (j - 1) x = A x := fun x q r => by unfold swA; rw [if_neg q, if_neg r]
  refine ⟨h1.sw (by omega) (by omega), fun c => by rw [sA_sw (by omega) (by omega)]; exact h2 c, all_sw (Pr := fun t => t.2 ≠ 0) h3 (by omega) (by omega), fun x y hxy hy hx hy2 => ?_, fun y hy1 hy2 => ?_⟩
  · by_cases q : x = j
    · subst q
      rw [sj, so y (by omega) (by omega)]
      exact h4 (x - 1) y (by omega) hy (by omega) (by omega)
    · by_cases r : y = j
      · subst r
        rw [sj, so x (by omega) (by omega)]
        exact h4 x (y - 1) (by omega) (by omega) (by omega) (by omega)
      · rw [so x q hx, so y r hy2]
        exact h4 x y hxy hy q r
  · rw [sp]
    by_cases q : y = j
    · subst q; rw [sj]; exact hq
    · rw [so y q (by omega)]
      exact h5 y (by omega) hy2
variable {L : PL}
theorem to_A (h : CInv fc fh fl F m i k) (hi : i = m ∧ k ≤ m) (hL1 : Srt L) (hL2 : ∀ t ∈ L, t.2 ≠ 0 ∧ vC t.1) (hL3 : ∀ c, co L c = F c) : ∃ A, SInv fc fh fl F A k 1 := by
  obtain ⟨A, h1, h2, h3, h4⟩ := h
  obtain ⟨rfl, hk⟩ := hi
  refine ⟨A, ⟨fun x hx => h1.1 x (by omega), fun x y hx hy e => h1.2.1 x y (by omega) (by omega) e, fun x hx => h1.2.2 x (by omega)⟩, fun c => ?_, h3, fun x y hxy hy _ => by omega⟩
  rw [← h2 c]
  unfold sA
  refine (sumN_cut hk (fun x h5 h6 => ?_)).symm
  rw [h4 x h5 h6]; split <;> rfl
theorem SInv.lst (h : SInv fc fh fl F A k i) (hL1 : Srt L) (hL2 : ∀ t ∈ L, t.2 ≠ 0 ∧ vC t.1) (hL3 : ∀ c, co L c = F c) : L = srtA A k := by
  refine srt_uniq hL1 (fun t ht => (hL2 t ht).1) (srtA_srt h.1.2.1) (fun t ht => ?_) (fun c => by rw [hL3, srtA_co, h.2.1])
  obtain ⟨x, hx, rfl⟩ := (srtA_mem A).mp ht
  exact h.2.2.1 x hx
theorem to_good (h : SInv fc fh fl F A k i) (hL1 : Srt L) (hL2 : ∀ t ∈ L, t.2 ≠ 0 ∧ vC t.1) (hL3 : ∀ c, co L c = F c) (hk : k ≤ 60) (hr : ∀ x, x < k → rng (fc x)) : cut 60 L = some L := by
  have e := h.lst hL1 hL2 hL3
  rw [cut, if_pos]
  refine ⟨by rw [e, srtA_len]; exact hk, List.all_eq_true.mpr (fun t ht => decide_eq_true ?_)⟩
  rw [e] at ht
  obtain ⟨x, hx, rfl⟩ := (srtA_mem A).mp ht
  have := hr x hx
  rw [(h.1.1 x hx).1, rng_iff (h.1.2.2 x hx).2] at this
  exact this
theorem to_bad (h : CInv fc fh fl F m i k) (hi : i = m ∧ k ≤ m) (hL1 : Srt L) (hL2 : ∀ t ∈ L, t.2 ≠ 0 ∧ vC t.1) (hL3 : ∀ c, co L c = F c) (hb : 60 < k ∨ ∃ x, x < k ∧ ¬ rng (fc x)) : cut 60 L = none := by
  obtain ⟨A, hS⟩ := to_A h hi hL1 hL2 hL3
  have e := hS.lst hL1 hL2 hL3
  rw [cut, if_neg]
  rintro ⟨q1, q2⟩
  rcases hb with r | ⟨x, hx, r⟩
  · rw [e, srtA_len] at q1
    omega
  · have hm : A x ∈ L := by rw [e]; exact (srtA_mem A).mpr ⟨x, hx, rfl⟩
    have := of_decide_eq_true (List.all_eq_true.mp q2 _ hm)
    refine r ?_
    rw [(hS.1.1 x hx).1, rng_iff (hS.1.2.2 x hx).2]
    exact this
end TO
def CpI (gc gh gl gc2 gh2 gl2 fc fh fl : Nat → Int64) (z i : Nat) : Prop := (∀ x, x < i → gc2 (60 * z + x) = fc x ∧ gh2 (60 * z + x) = fh x ∧ gl2 (60 * z + x) = fl x) ∧ ∀ y, (y < 60 * z ∨ 60 * z + i ≤ y) → gc2 y = gc y ∧ gh2 y = gh y ∧ gl2 y = gl y
section CP
variable {gc gh gl gc2 gh2 gl2 fc fh fl : Nat → Int64} {z i : Nat}
theorem CpI_0 : CpI gc gh gl gc gh gl fc fh fl z 0 := ⟨fun x h => absurd h (Nat.not_lt_zero x), fun _ _ => ⟨rfl, rfl, rfl⟩⟩
theorem CpI.step (h : CpI gc gh gl gc2 gh2 gl2 fc fh fl z i) : CpI gc gh gl (vp_updL gc2 (60 * z + i) (fc i)) (vp_updL gh2 (60 * z + i) (fh i)) (vp_updL gl2 (60 * z + i) (fl i)) fc fh fl z (i + 1) := by
  refine ⟨fun x hx => ?_, fun y hy => ?_⟩
  · by_cases q : x = i
    · subst q
      rw [pk_uLs, pk_uLs, pk_uLs]
      exact ⟨rfl, rfl, rfl⟩
    · rw [pk_uLn (by omega), pk_uLn (by omega), pk_uLn (by omega)]
      exact h.1 x (by omega)
  · rw [pk_uLn (by omega), pk_uLn (by omega), pk_uLn (by omega)]
    exact h.2 y (by omega)
end CP
theorem slots_to {fc fh fl gc gh gl gc2 gh2 gl2 : Nat → Int64} {ma : Nat → Int32} {F : Nat → Int} {A : Ar} {L : PL} {Sl : Nat → PL} {z k i : Nat} (hsl : SlotsOK ma gc gh gl Sl) (hz : z < 62) (hS : SInv fc fh fl F A k i) (hi : k ≤ i) (hL1 : Srt L) (hL2 : ∀ t ∈ L, t.2 ≠ 0 ∧ vC t.1) (hL3 : ∀ c, co L c = F c) (hcut : cut 60 L = some L) (hk : k ≤ 60) (hc : CpI gc gh gl gc2 gh2 gl2 fc fh fl z k) : SlotsOK (upd ma z (nI k)) gc2 gh2 gl2 (va_up Sl z L) := by
  have e : L = lsA A k := by
    refine srt_uniq hL1 (fun t ht => (hL2 t ht).1) (lsA_srt (fun x y h1 h2 => hS.2.2.2 x y h1 (by omega) h2)) (fun t ht => ?_) (fun c => by rw [hL3, lsA_co, hS.2.1])
    obtain ⟨x, hx, rfl⟩ := lsA_mem.mp ht
    exact hS.2.2.1 x hx
  intro y hy
  by_cases q : y = z
  · subst q
    rw [va_up_self, pk_us]
    refine ⟨⟨hL1, (cut_some hcut).2.1, fun t ht => ⟨(hL2 t ht).2, (hL2 t ht).1, (cut_some hcut).2.2 t ht⟩⟩, by rw [e, lsA_len], fun j hj => ?_⟩
    rw [e, lsA_len] at hj
    have hAj := lsA_at A hj
    rw [← e] at hAj
    have h1 := hS.1.1 j hj
    rw [← hAj] at h1
    have h2 := hc.1 j hj
    rw [h2.1, h2.2.1, h2.2.2]
    exact h1
  · rw [va_up_ne _ _ q, pk_un q]
    obtain ⟨h1, h2, h3⟩ := hsl y hy
    refine ⟨h1, h2, fun j hj => ?_⟩
    have hl := h1.2.1
    have h4 := hc.2 (60 * y + j) (by omega)
    rw [h4.1, h4.2.1, h4.2.2]
    exact h3 j hj

set_option maxHeartbeats 4000000 in
set_option maxRecDepth 100000 in
theorem kX3_to {l : Launch} {G : Gx} {B : Nat} {w : Wm} {n : Nat} (M z m : Nat) (F : Nat → Int) (L : PL) (Sl : Nat → PL) (hc pc big : Int32) (ma : Nat → Int32) (gc gh gl fc fh fl : Nat → Int64) (m0 : w M = some (MOb M hc pc (nI m) big)) (m1 : w (M + 1) = some (eI G 62 ma)) (m2 : w (M + 2) = some (eJ G 3720 gc)) (m3 : w (M + 3) = some (eJ G 3720 gh)) (m4 : w (M + 4) = some (eJ G 3720 gl)) (m10 : w (M + 10) = some (eJ G 3700 fc)) (m11 : w (M + 11) = some (eJ G 3700 fh)) (m12 : w (M + 12) = some (eJ G 3700 fl)) (hz : z < 62) (hm : m ≤ 3600) (hsl : SlotsOK ma gc gh gl Sl) (hA : big = 0 → CInv fc fh fl F m 0 0 ∧ Srt L ∧ (∀ t ∈ L, t.2 ≠ 0 ∧ vC t.1) ∧ ∀ c, co L c = F c) : Met l yX3_to (wsM yX3_to cX3_to 6 (some .boolean)) ({ frames := 2, cells := 0, slots := 0, locals := 49 } : Room) (Pcx G B w n [.ref (M), .int (nI z)]) (Qi G B (fun r w' n' => n' = n ∧ (∀ b, (b < M ∨ M + 13 ≤ b ∨ (M + 5 ≤ b ∧ b < M + 10)) → w' b = w b) ∧ (∃ cnt' fc' fh' fl', w' M = some (MOb M hc pc (nI cnt') big) ∧ w' (M + 10) = some (eJ G 3700 fc') ∧ w' (M + 11) = some (eJ G 3700 fh') ∧ w' (M + 12) = some (eJ G 3700 fl')) ∧ ∃ ma' gc' gh' gl', w' (M + 1) = some (eI G 62 ma') ∧ w' (M + 2) = some (eJ G 3720 gc') ∧ w' (M + 3) = some (eJ G 3720 gh') ∧ w' (M + 4) = some (eJ G 3720 gl') ∧ ((r = 1 ∧ big = 0 ∧ cut 60 L = some L ∧ SlotsOK ma' gc' gh' gl' (va_up Sl z L)) ∨ (r = 0 ∧ (big = 0 → cut 60 L = none) ∧ SlotsOK ma' gc' gh' gl' Sl)))) 0 0 (FA B) := by
  refine en (by decide) (Nat.le_of_ble_eq_true rfl) ?_
  intro p ev s mm ag bl mt cde S hr hlk hnm hK H hH ls hl
  have hl : lv_has ls 6 [(0, .ref (M)), (1, .int (nI z))] := hl
  have hC : big = 0 → CInv fc fh fl F m 0 0 := fun e => (hA e).1
  replace hA : big = 0 → Srt L ∧ (∀ t ∈ L, t.2 ≠ 0 ∧ vC t.1) ∧ ∀ c, co L c = F c := fun e => (hA e).2
  have hF : ∀ b, b < M ∨ M + 13 ≤ b ∨ (M + 5 ≤ b ∧ b < M + 10) → w b = w b := fun _ _ => rfl
  refine lv_iconst (v := nI 0) S.1 S.2.1 dX3_to_0 (by decide) ?_
  refine lv_istore_n (lv' := [(2, .int (nI 0)), (0, .ref (M)), (1, .int (nI z))]) S.1 S.2.1 dX3_to_1 rfl hl (by decide) rfl (fun ls hl => ?_)
  refine lv_iconst (v := nI 0) S.1 S.2.1 dX3_to_2 (by decide) ?_
  refine lv_istore_n (lv' := [(3, .int (nI 0)), (2, .int (nI 0)), (0, .ref (M)), (1, .int (nI z))]) S.1 S.2.1 dX3_to_3 rfl hl (by decide) rfl (fun ls hl => ?_)
  refine wlp (P := fun k_ ls H' locs' => ∃ (i k : Nat) (fc fh fl : Nat → Int64) (v : Wm), lv_has ls 6 [(0, .ref (M)), (1, .int (nI z)), (2, .int (nI k)), (3, .int (nI i))] ∧ HS G B v (n) s H' locs' ∧ v (M) = some (eO 3 [.ref (M + 1), .ref (M + 2), .ref (M + 3), .ref (M + 4), .int (hc), .int (pc), .ref (M + 5), .ref (M + 6), .ref (M + 7), .ref (M + 8), .ref (M + 9), .int (nI m), .int (big), .ref (M + 10), .ref (M + 11), .ref (M + 12)]) ∧ v (M + 1) = some (eI G (62) (ma)) ∧ v (M + 2) = some (eJ G (3720) (gc)) ∧ v (M + 3) = some (eJ G (3720) (gh)) ∧ v (M + 4) = some (eJ G (3720) (gl)) ∧ v (M + 10) = some (eJ G (3700) (fc)) ∧ v (M + 11) = some (eJ G (3700) (fh)) ∧ v (M + 12) = some (eJ G (3700) (fl)) ∧ (∀ b, b < M ∨ M + 13 ≤ b ∨ (M + 5 ≤ b ∧ b < M + 10) → v b = w b) ∧ (k ≤ i) ∧ (i ≤ m) ∧ (big = 0 → CInv fc fh fl F m i k) ∧ k_ = m - i) ?_ (k0 := m - (0)) ⟨0, 0, fc, fh, fl, w, lv_sub hl [2, 3, 1, 0] rfl, hH, m0, m1, m2, m3, m4, m10, m11, m12, hF, by omega, by omega, hC, rfl⟩
  intro k4 ls H locs hP ih4
  obtain ⟨i, k, fc, fh, fl, v, hl, hH, m0, m1, m2, m3, m4, m10, m11, m12, hF, hki, him, hC, hk4⟩ := hP
  refine lv_iload_n S.1 S.2.1 dX3_to_4 rfl (lv_at hl 3 rfl) ?_
  refine lv_aload_n S.1 S.2.1 dX3_to_5 rfl (lv_at hl 0 rfl) ?_
  refine gfX3_47 S hK hH m0 dX3_to_6 ?_
  refine bn_ge (tgt := 41) S dX3_to_9 (by decide) (by omega) (fun c9 => ?_) (fun c9 => ?_)
  · skip
    refine lv_aload_n S.1 S.2.1 dX3_to_41 rfl (lv_at hl 0 rfl) ?_
    refine lv_iload_n S.1 S.2.1 dX3_to_42 rfl (lv_at hl 2 rfl) ?_
    refine pfX3_47 S hK hH m0 dX3_to_43 (fun w1 H locs m0 fr hH => ?_)
    replace m1 := (fr (M + 1) (by omega)).trans m1
    replace m2 := (fr (M + 2) (by omega)).trans m2
    replace m3 := (fr (M + 3) (by omega)).trans m3
    replace m4 := (fr (M + 4) (by omega)).trans m4
    replace m10 := (fr (M + 10) (by omega)).trans m10
    replace m11 := (fr (M + 11) (by omega)).trans m11
    replace m12 := (fr (M + 12) (by omega)).trans m12
    replace hF : ∀ b, b < M ∨ M + 13 ≤ b ∨ (M + 5 ≤ b ∧ b < M + 10) → w1 b = w b := fun b hb => (fr b (by omega)).trans (hF b hb)
    refine lv_aload_n S.1 S.2.1 dX3_to_46 rfl (lv_at hl 0 rfl) ?_
    refine gfX3_51 S hK hH m0 dX3_to_47 ?_
    refine lv_if_ne (tgt := 66) S.1 S.2.1 dX3_to_50 (by decide) (fun c50 => ?_) (fun c50 => ?_)
    · skip
      refine lv_iconst (v := nI 0) S.1 S.2.1 dX3_to_66 (by decide) ?_
      refine lv_istore_n (lv' := [(3, .int (nI 0)), (0, .ref (M)), (1, .int (nI z)), (2, .int (nI k))]) S.1 S.2.1 dX3_to_67 rfl hl (by decide) rfl (fun ls hl => ?_)
      refine lv_iconst (v := nI 0) S.1 S.2.1 dX3_to_68 (by decide) ?_
      refine lv_istore (lv' := [(4, .int (nI 0)), (3, .int (nI 0)), (0, .ref (M)), (1, .int (nI z)), (2, .int (nI k))]) S.1 S.2.1 dX3_to_69 hl (by decide) rfl (fun ls hl => ?_)
      refine wlp (P := fun k_ ls H' locs' => ∃ (i1 : Nat) (g : Int32), lv_has ls 6 [(0, .ref (M)), (1, .int (nI z)), (3, .int (g)), (4, .int (nI i1))] ∧ (H = H' ∧ locs = locs') ∧ (i1 ≤ k) ∧ (GI big k i1 fc g) ∧ k_ = k - i1) ?_ (k0 := k - (0)) ⟨0, nI 0, lv_sub hl [2, 3, 1, 0] rfl, ⟨rfl, rfl⟩, by omega, Or.inr ⟨rfl, Or.inl c50⟩, rfl⟩
      intro k71 ls H' locs' hP ih71
      obtain ⟨i1, g, hl, ⟨rfl, rfl⟩, hi1, hg, hk71⟩ := hP
      refine lv_iload S.1 S.2.1 dX3_to_71 (lv_at hl 3 rfl) ?_
      refine lv_aload_n S.1 S.2.1 dX3_to_73 rfl (lv_at hl 0 rfl) ?_
      refine gfX3_47 S hK hH m0 dX3_to_74 ?_
      refine bn_ge (tgt := 124) S dX3_to_77 (by decide) (by omega) (fun c77 => ?_) (fun c77 => ?_)
      · skip
        refine lv_iload_n S.1 S.2.1 dX3_to_124 rfl (lv_at hl 2 rfl) ?_
        refine lv_if_ne (tgt := 130) S.1 S.2.1 dX3_to_125 (by decide) (fun c125 => ?_) (fun c125 => ?_)
        · skip
          exact GI_no hg c125 (by first | exact Or.inl c50 | exact Or.inr c59)
        · skip
          refine lv_iconst (v := nI 0) S.1 S.2.1 dX3_to_128 (by decide) ?_
          exact rt_z S hr hlk hH dX3_to_129 (by decide) (⟨rfl, hF, ⟨_, _, _, _, m0, m10, m11, m12⟩, ma, gc, gh, gl, m1, m2, m3, m4, Or.inr ⟨rfl, fun e => to_bad (hC e) (by omega) (hA e).1 (hA e).2.1 (hA e).2.2 (GI_0 hg c125 e), hsl⟩⟩)
      · skip
        refine lv_iload_n S.1 S.2.1 dX3_to_80 rfl (lv_at hl 2 rfl) ?_
        refine lv_if_eq (tgt := 116) S.1 S.2.1 dX3_to_81 (by decide) (fun c81 => ?_) (fun c81 => ?_)
        · skip
          refine lv_iconst (v := nI 0) S.1 S.2.1 dX3_to_116 (by decide) ?_
          refine lv_istore_n (lv' := [(3, .int (nI 0)), (0, .ref (M)), (1, .int (nI z)), (4, .int (nI i1))]) S.1 S.2.1 dX3_to_117 rfl hl (by decide) rfl (fun ls hl => ?_)
          refine lv_iinc (v := nI (i1 + 1)) (lv' := [(4, .int (nI (i1 + 1))), (3, .int (nI 0)), (0, .ref (M)), (1, .int (nI z))]) S.1 S.2.1 dX3_to_118 hl (k := 3) rfl (nI_inc _ 1) (by decide) rfl (fun ls hl => ?_)
          refine lv_goto (tgt := 71) S.1 S.2.1 dX3_to_121 (by decide) ?_
          exact ih71 _ _ _ _ (by omega) ⟨i1 + 1, nI 0, lv_sub hl [2, 3, 1, 0] rfl, ⟨rfl, rfl⟩, by omega, GI_s0 hg c81, rfl⟩
        · skip
          refine lv_aload_n S.1 S.2.1 dX3_to_84 rfl (lv_at hl 0 rfl) ?_
          refine gfX3_38 S hK hH m0 dX3_to_85 ?_
          refine lv_iload S.1 S.2.1 dX3_to_88 (lv_at hl 3 rfl) ?_
          refine ald_l S hK hH m10 (by omega) (by omega) dX3_to_90 ?_
          refine lv_ldc2 S.1 S.2.1 S.2.2.2.1 (S.2.2.2.2 _ mW373) dX3_to_91 ?_
          refine tpl (x' := lI 99999999) (by decide) ?_
          refine bl_gt (tgt := 116) S dX3_to_94 dX3_to_95 (by decide) (fun c94 => ?_) (fun c94 => ?_)
          · skip
            refine lv_iconst (v := nI 0) S.1 S.2.1 dX3_to_116 (by decide) ?_
            refine lv_istore_n (lv' := [(3, .int (nI 0)), (0, .ref (M)), (1, .int (nI z)), (4, .int (nI i1))]) S.1 S.2.1 dX3_to_117 rfl hl (by decide) rfl (fun ls hl => ?_)
            refine lv_iinc (v := nI (i1 + 1)) (lv' := [(4, .int (nI (i1 + 1))), (3, .int (nI 0)), (0, .ref (M)), (1, .int (nI z))]) S.1 S.2.1 dX3_to_118 hl (k := 3) rfl (nI_inc _ 1) (by decide) rfl (fun ls hl => ?_)
            refine lv_goto (tgt := 71) S.1 S.2.1 dX3_to_121 (by decide) ?_
            exact ih71 _ _ _ _ (by omega) ⟨i1 + 1, nI 0, lv_sub hl [2, 3, 1, 0] rfl, ⟨rfl, rfl⟩, by omega, GI_s1 hg c81 c77 c94, rfl⟩
          · skip
            refine lv_aload_n S.1 S.2.1 dX3_to_98 rfl (lv_at hl 0 rfl) ?_
            refine gfX3_38 S hK hH m0 dX3_to_99 ?_
            refine lv_iload S.1 S.2.1 dX3_to_102 (lv_at hl 3 rfl) ?_
            refine ald_l S hK hH m10 (by omega) (by omega) dX3_to_104 ?_
            refine lv_ldc2 S.1 S.2.1 S.2.2.2.1 (S.2.2.2.2 _ mW374) dX3_to_105 ?_
            refine tpl (x' := lI (-99999999)) (by decide) ?_
            refine bl_lt (tgt := 116) S dX3_to_108 dX3_to_109 (by decide) (fun c108 => ?_) (fun c108 => ?_)
            · skip
              refine lv_iconst (v := nI 0) S.1 S.2.1 dX3_to_116 (by decide) ?_
              refine lv_istore_n (lv' := [(3, .int (nI 0)), (0, .ref (M)), (1, .int (nI z)), (4, .int (nI i1))]) S.1 S.2.1 dX3_to_117 rfl hl (by decide) rfl (fun ls hl => ?_)
              refine lv_iinc (v := nI (i1 + 1)) (lv' := [(4, .int (nI (i1 + 1))), (3, .int (nI 0)), (0, .ref (M)), (1, .int (nI z))]) S.1 S.2.1 dX3_to_118 hl (k := 3) rfl (nI_inc _ 1) (by decide) rfl (fun ls hl => ?_)
              refine lv_goto (tgt := 71) S.1 S.2.1 dX3_to_121 (by decide) ?_
              exact ih71 _ _ _ _ (by omega) ⟨i1 + 1, nI 0, lv_sub hl [2, 3, 1, 0] rfl, ⟨rfl, rfl⟩, by omega, GI_s2 hg c81 c77 c108, rfl⟩
            · skip
              refine lv_iconst (v := nI 1) S.1 S.2.1 dX3_to_112 (by decide) ?_
              refine lv_goto (tgt := 117) S.1 S.2.1 dX3_to_113 (by decide) ?_
              refine lv_istore_n (lv' := [(3, .int (nI 1)), (0, .ref (M)), (1, .int (nI z)), (4, .int (nI i1))]) S.1 S.2.1 dX3_to_117 rfl hl (by decide) rfl (fun ls hl => ?_)
              refine lv_iinc (v := nI (i1 + 1)) (lv' := [(4, .int (nI (i1 + 1))), (3, .int (nI 1)), (0, .ref (M)), (1, .int (nI z))]) S.1 S.2.1 dX3_to_118 hl (k := 3) rfl (nI_inc _ 1) (by decide) rfl (fun ls hl => ?_)
              refine lv_goto (tgt := 71) S.1 S.2.1 dX3_to_121 (by decide) ?_
              exact ih71 _ _ _ _ (by omega) ⟨i1 + 1, nI 1, lv_sub hl [2, 3, 1, 0] rfl, ⟨rfl, rfl⟩, by omega, GI_s3 hg c81 ⟨c94, c108⟩, rfl⟩
    · skip
      refine lv_aload_n S.1 S.2.1 dX3_to_53 rfl (lv_at hl 0 rfl) ?_
      refine gfX3_47 S hK hH m0 dX3_to_54 ?_
      refine lv_bipush (v := nI 60) S.1 S.2.1 dX3_to_57 (by decide) ?_
      refine bn_gt (tgt := 66) S dX3_to_59 (by decide) (by omega) (fun c59 => ?_) (fun c59 => ?_)
      · skip
        refine lv_iconst (v := nI 0) S.1 S.2.1 dX3_to_66 (by decide) ?_
        refine lv_istore_n (lv' := [(3, .int (nI 0)), (0, .ref (M)), (1, .int (nI z)), (2, .int (nI k))]) S.1 S.2.1 dX3_to_67 rfl hl (by decide) rfl (fun ls hl => ?_)
        refine lv_iconst (v := nI 0) S.1 S.2.1 dX3_to_68 (by decide) ?_
        refine lv_istore (lv' := [(4, .int (nI 0)), (3, .int (nI 0)), (0, .ref (M)), (1, .int (nI z)), (2, .int (nI k))]) S.1 S.2.1 dX3_to_69 hl (by decide) rfl (fun ls hl => ?_)
        refine wlp (P := fun k_ ls H' locs' => ∃ (i1 : Nat) (g : Int32), lv_has ls 6 [(0, .ref (M)), (1, .int (nI z)), (3, .int (g)), (4, .int (nI i1))] ∧ (H = H' ∧ locs = locs') ∧ (i1 ≤ k) ∧ (GI big k i1 fc g) ∧ k_ = k - i1) ?_ (k0 := k - (0)) ⟨0, nI 0, lv_sub hl [2, 3, 1, 0] rfl, ⟨rfl, rfl⟩, by omega, Or.inr ⟨rfl, Or.inr (Or.inl c59)⟩, rfl⟩
        intro k71 ls H' locs' hP ih71
        obtain ⟨i1, g, hl, ⟨rfl, rfl⟩, hi1, hg, hk71⟩ := hP
        refine lv_iload S.1 S.2.1 dX3_to_71 (lv_at hl 3 rfl) ?_
        refine lv_aload_n S.1 S.2.1 dX3_to_73 rfl (lv_at hl 0 rfl) ?_
        refine gfX3_47 S hK hH m0 dX3_to_74 ?_
        refine bn_ge (tgt := 124) S dX3_to_77 (by decide) (by omega) (fun c77 => ?_) (fun c77 => ?_)
        · skip
          refine lv_iload_n S.1 S.2.1 dX3_to_124 rfl (lv_at hl 2 rfl) ?_
          refine lv_if_ne (tgt := 130) S.1 S.2.1 dX3_to_125 (by decide) (fun c125 => ?_) (fun c125 => ?_)
          · skip
            exact GI_no hg c125 (by first | exact Or.inl c50 | exact Or.inr c59)
          · skip
            refine lv_iconst (v := nI 0) S.1 S.2.1 dX3_to_128 (by decide) ?_
            exact rt_z S hr hlk hH dX3_to_129 (by decide) (⟨rfl, hF, ⟨_, _, _, _, m0, m10, m11, m12⟩, ma, gc, gh, gl, m1, m2, m3, m4, Or.inr ⟨rfl, fun e => to_bad (hC e) (by omega) (hA e).1 (hA e).2.1 (hA e).2.2 (GI_0 hg c125 e), hsl⟩⟩)
        · skip
          refine lv_iload_n S.1 S.2.1 dX3_to_80 rfl (lv_at hl 2 rfl) ?_
          refine lv_if_eq (tgt := 116) S.1 S.2.1 dX3_to_81 (by decide) (fun c81 => ?_) (fun c81 => ?_)
          · skip
            refine lv_iconst (v := nI 0) S.1 S.2.1 dX3_to_116 (by decide) ?_
            refine lv_istore_n (lv' := [(3, .int (nI 0)), (0, .ref (M)), (1, .int (nI z)), (4, .int (nI i1))]) S.1 S.2.1 dX3_to_117 rfl hl (by decide) rfl (fun ls hl => ?_)
            refine lv_iinc (v := nI (i1 + 1)) (lv' := [(4, .int (nI (i1 + 1))), (3, .int (nI 0)), (0, .ref (M)), (1, .int (nI z))]) S.1 S.2.1 dX3_to_118 hl (k := 3) rfl (nI_inc _ 1) (by decide) rfl (fun ls hl => ?_)
            refine lv_goto (tgt := 71) S.1 S.2.1 dX3_to_121 (by decide) ?_
            exact ih71 _ _ _ _ (by omega) ⟨i1 + 1, nI 0, lv_sub hl [2, 3, 1, 0] rfl, ⟨rfl, rfl⟩, by omega, GI_s0 hg c81, rfl⟩
          · skip
            refine lv_aload_n S.1 S.2.1 dX3_to_84 rfl (lv_at hl 0 rfl) ?_
            refine gfX3_38 S hK hH m0 dX3_to_85 ?_
            refine lv_iload S.1 S.2.1 dX3_to_88 (lv_at hl 3 rfl) ?_
            refine ald_l S hK hH m10 (by omega) (by omega) dX3_to_90 ?_
            refine lv_ldc2 S.1 S.2.1 S.2.2.2.1 (S.2.2.2.2 _ mW373) dX3_to_91 ?_
            refine tpl (x' := lI 99999999) (by decide) ?_
            refine bl_gt (tgt := 116) S dX3_to_94 dX3_to_95 (by decide) (fun c94 => ?_) (fun c94 => ?_)
            · skip
              refine lv_iconst (v := nI 0) S.1 S.2.1 dX3_to_116 (by decide) ?_
              refine lv_istore_n (lv' := [(3, .int (nI 0)), (0, .ref (M)), (1, .int (nI z)), (4, .int (nI i1))]) S.1 S.2.1 dX3_to_117 rfl hl (by decide) rfl (fun ls hl => ?_)
              refine lv_iinc (v := nI (i1 + 1)) (lv' := [(4, .int (nI (i1 + 1))), (3, .int (nI 0)), (0, .ref (M)), (1, .int (nI z))]) S.1 S.2.1 dX3_to_118 hl (k := 3) rfl (nI_inc _ 1) (by decide) rfl (fun ls hl => ?_)
              refine lv_goto (tgt := 71) S.1 S.2.1 dX3_to_121 (by decide) ?_
              exact ih71 _ _ _ _ (by omega) ⟨i1 + 1, nI 0, lv_sub hl [2, 3, 1, 0] rfl, ⟨rfl, rfl⟩, by omega, GI_s1 hg c81 c77 c94, rfl⟩
            · skip
              refine lv_aload_n S.1 S.2.1 dX3_to_98 rfl (lv_at hl 0 rfl) ?_
              refine gfX3_38 S hK hH m0 dX3_to_99 ?_
              refine lv_iload S.1 S.2.1 dX3_to_102 (lv_at hl 3 rfl) ?_
              refine ald_l S hK hH m10 (by omega) (by omega) dX3_to_104 ?_
              refine lv_ldc2 S.1 S.2.1 S.2.2.2.1 (S.2.2.2.2 _ mW374) dX3_to_105 ?_
              refine tpl (x' := lI (-99999999)) (by decide) ?_
              refine bl_lt (tgt := 116) S dX3_to_108 dX3_to_109 (by decide) (fun c108 => ?_) (fun c108 => ?_)
              · skip
                refine lv_iconst (v := nI 0) S.1 S.2.1 dX3_to_116 (by decide) ?_
                refine lv_istore_n (lv' := [(3, .int (nI 0)), (0, .ref (M)), (1, .int (nI z)), (4, .int (nI i1))]) S.1 S.2.1 dX3_to_117 rfl hl (by decide) rfl (fun ls hl => ?_)
                refine lv_iinc (v := nI (i1 + 1)) (lv' := [(4, .int (nI (i1 + 1))), (3, .int (nI 0)), (0, .ref (M)), (1, .int (nI z))]) S.1 S.2.1 dX3_to_118 hl (k := 3) rfl (nI_inc _ 1) (by decide) rfl (fun ls hl => ?_)
                refine lv_goto (tgt := 71) S.1 S.2.1 dX3_to_121 (by decide) ?_
                exact ih71 _ _ _ _ (by omega) ⟨i1 + 1, nI 0, lv_sub hl [2, 3, 1, 0] rfl, ⟨rfl, rfl⟩, by omega, GI_s2 hg c81 c77 c108, rfl⟩
              · skip
                refine lv_iconst (v := nI 1) S.1 S.2.1 dX3_to_112 (by decide) ?_
                refine lv_goto (tgt := 117) S.1 S.2.1 dX3_to_113 (by decide) ?_
                refine lv_istore_n (lv' := [(3, .int (nI 1)), (0, .ref (M)), (1, .int (nI z)), (4, .int (nI i1))]) S.1 S.2.1 dX3_to_117 rfl hl (by decide) rfl (fun ls hl => ?_)
                refine lv_iinc (v := nI (i1 + 1)) (lv' := [(4, .int (nI (i1 + 1))), (3, .int (nI 1)), (0, .ref (M)), (1, .int (nI z))]) S.1 S.2.1 dX3_to_118 hl (k := 3) rfl (nI_inc _ 1) (by decide) rfl (fun ls hl => ?_)
                refine lv_goto (tgt := 71) S.1 S.2.1 dX3_to_121 (by decide) ?_
                exact ih71 _ _ _ _ (by omega) ⟨i1 + 1, nI 1, lv_sub hl [2, 3, 1, 0] rfl, ⟨rfl, rfl⟩, by omega, GI_s3 hg c81 ⟨c94, c108⟩, rfl⟩
      · skip
        refine lv_iconst (v := nI 1) S.1 S.2.1 dX3_to_62 (by decide) ?_
        refine lv_goto (tgt := 67) S.1 S.2.1 dX3_to_63 (by decide) ?_
        refine lv_istore_n (lv' := [(3, .int (nI 1)), (0, .ref (M)), (1, .int (nI z)), (2, .int (nI k))]) S.1 S.2.1 dX3_to_67 rfl hl (by decide) rfl (fun ls hl => ?_)
        refine lv_iconst (v := nI 0) S.1 S.2.1 dX3_to_68 (by decide) ?_
        refine lv_istore (lv' := [(4, .int (nI 0)), (3, .int (nI 1)), (0, .ref (M)), (1, .int (nI z)), (2, .int (nI k))]) S.1 S.2.1 dX3_to_69 hl (by decide) rfl (fun ls hl => ?_)
        refine wlp (P := fun k_ ls H' locs' => ∃ (i1 : Nat) (g : Int32), lv_has ls 6 [(0, .ref (M)), (1, .int (nI z)), (3, .int (g)), (4, .int (nI i1))] ∧ (H = H' ∧ locs = locs') ∧ (i1 ≤ k) ∧ (GI big k i1 fc g) ∧ k_ = k - i1) ?_ (k0 := k - (0)) ⟨0, nI 1, lv_sub hl [2, 3, 1, 0] rfl, ⟨rfl, rfl⟩, by omega, Or.inl ⟨rfl, c50, c59, fun x h => absurd h (Nat.not_lt_zero x)⟩, rfl⟩
        intro k71 ls H' locs' hP ih71
        obtain ⟨i1, g, hl, ⟨rfl, rfl⟩, hi1, hg, hk71⟩ := hP
        refine lv_iload S.1 S.2.1 dX3_to_71 (lv_at hl 3 rfl) ?_
        refine lv_aload_n S.1 S.2.1 dX3_to_73 rfl (lv_at hl 0 rfl) ?_
        refine gfX3_47 S hK hH m0 dX3_to_74 ?_
        refine bn_ge (tgt := 124) S dX3_to_77 (by decide) (by omega) (fun c77 => ?_) (fun c77 => ?_)
        · skip
          refine lv_iload_n S.1 S.2.1 dX3_to_124 rfl (lv_at hl 2 rfl) ?_
          refine lv_if_ne (tgt := 130) S.1 S.2.1 dX3_to_125 (by decide) (fun c125 => ?_) (fun c125 => ?_)
          · skip
            obtain ⟨hb0, hk60, hrng⟩ := GI_1 hg c125
            obtain ⟨hL1, hL2, hL3⟩ := hA hb0
            obtain ⟨A, hS⟩ := to_A (hC hb0) (by omega) hL1 hL2 hL3
            have hcut := to_good hS hL1 hL2 hL3 hk60 (fun x hx => hrng x (by omega))
            refine lv_iconst (v := nI 1) S.1 S.2.1 dX3_to_130 (by decide) ?_
            refine lv_istore (lv' := [(4, .int (nI 1)), (0, .ref (M)), (1, .int (nI z)), (3, .int (g))]) S.1 S.2.1 dX3_to_131 hl (by decide) rfl (fun ls hl => ?_)
            refine wlp (P := fun k_ ls H' locs' => ∃ (i2 : Nat) (A : Ar) (fc fh fl : Nat → Int64) (v : Wm), lv_has ls 6 [(0, .ref (M)), (1, .int (nI z)), (4, .int (nI i2))] ∧ HS G B v (n) s H' locs' ∧ v (M) = some (eO 3 [.ref (M + 1), .ref (M + 2), .ref (M + 3), .ref (M + 4), .int (hc), .int (pc), .ref (M + 5), .ref (M + 6), .ref (M + 7), .ref (M + 8), .ref (M + 9), .int (nI k), .int (big), .ref (M + 10), .ref (M + 11), .ref (M + 12)]) ∧ v (M + 1) = some (eI G (62) (ma)) ∧ v (M + 2) = some (eJ G (3720) (gc)) ∧ v (M + 3) = some (eJ G (3720) (gh)) ∧ v (M + 4) = some (eJ G (3720) (gl)) ∧ v (M + 10) = some (eJ G (3700) (fc)) ∧ v (M + 11) = some (eJ G (3700) (fh)) ∧ v (M + 12) = some (eJ G (3700) (fl)) ∧ (∀ b, b < M ∨ M + 13 ≤ b ∨ (M + 5 ≤ b ∧ b < M + 10) → v b = w b) ∧ (1 ≤ i2) ∧ (i2 ≤ k + 1) ∧ (SInv fc fh fl F A k i2) ∧ k_ = k + 1 - i2) ?_ (k0 := k + 1 - (1)) ⟨1, A, fc, fh, fl, w1, lv_sub hl [1, 2, 0] rfl, hH, m0, m1, m2, m3, m4, m10, m11, m12, hF, by omega, by omega, hS, rfl⟩
            intro k133 ls H locs hP ih133
            obtain ⟨i2, A, fc, fh, fl, v, hl, hH, m0, m1, m2, m3, m4, m10, m11, m12, hF, h1i, h2i, hS, hk133⟩ := hP
            refine lv_iload S.1 S.2.1 dX3_to_133 (lv_at hl 2 rfl) ?_
            refine lv_aload_n S.1 S.2.1 dX3_to_135 rfl (lv_at hl 0 rfl) ?_
            refine gfX3_47 S hK hH m0 dX3_to_136 ?_
            refine bn_ge (tgt := 186) S dX3_to_139 (by decide) (by omega) (fun c139 => ?_) (fun c139 => ?_)
            · skip
              refine lv_aload_n S.1 S.2.1 dX3_to_186 rfl (lv_at hl 0 rfl) ?_
              refine gfX3_9 S hK hH m0 dX3_to_187 ?_
              refine lv_iload_n S.1 S.2.1 dX3_to_190 rfl (lv_at hl 1 rfl) ?_
              refine lv_aload_n S.1 S.2.1 dX3_to_191 rfl (lv_at hl 0 rfl) ?_
              refine gfX3_47 S hK hH m0 dX3_to_192 ?_
              refine ast_i S hK hH m1 (by omega) (by omega) dX3_to_195 (fun w2 H locs m1 fr hH => ?_)
              replace m0 := (fr (M) (by omega)).trans m0
              replace m2 := (fr (M + 2) (by omega)).trans m2
              replace m3 := (fr (M + 3) (by omega)).trans m3
              replace m4 := (fr (M + 4) (by omega)).trans m4
              replace m10 := (fr (M + 10) (by omega)).trans m10
              replace m11 := (fr (M + 11) (by omega)).trans m11
              replace m12 := (fr (M + 12) (by omega)).trans m12
              replace hF : ∀ b, b < M ∨ M + 13 ≤ b ∨ (M + 5 ≤ b ∧ b < M + 10) → w2 b = w b := fun b hb => (fr b (by omega)).trans (hF b hb)
              refine lv_iconst (v := nI 0) S.1 S.2.1 dX3_to_196 (by decide) ?_
              refine lv_istore (lv' := [(4, .int (nI 0)), (0, .ref (M)), (1, .int (nI z))]) S.1 S.2.1 dX3_to_197 hl (by decide) rfl (fun ls hl => ?_)
              refine wlp (P := fun k_ ls H' locs' => ∃ (i3 : Nat) (gc2 gh2 gl2 : Nat → Int64) (v : Wm), lv_has ls 6 [(0, .ref (M)), (1, .int (nI z)), (4, .int (nI i3))] ∧ HS G B v (n) s H' locs' ∧ v (M) = some (eO 3 [.ref (M + 1), .ref (M + 2), .ref (M + 3), .ref (M + 4), .int (hc), .int (pc), .ref (M + 5), .ref (M + 6), .ref (M + 7), .ref (M + 8), .ref (M + 9), .int (nI k), .int (big), .ref (M + 10), .ref (M + 11), .ref (M + 12)]) ∧ v (M + 1) = some (eI G (62) (upd ma z (nI k))) ∧ v (M + 2) = some (eJ G (3720) (gc2)) ∧ v (M + 3) = some (eJ G (3720) (gh2)) ∧ v (M + 4) = some (eJ G (3720) (gl2)) ∧ v (M + 10) = some (eJ G (3700) (fc)) ∧ v (M + 11) = some (eJ G (3700) (fh)) ∧ v (M + 12) = some (eJ G (3700) (fl)) ∧ (∀ b, b < M ∨ M + 13 ≤ b ∨ (M + 5 ≤ b ∧ b < M + 10) → v b = w b) ∧ (i3 ≤ k) ∧ (CpI gc gh gl gc2 gh2 gl2 fc fh fl z i3) ∧ k_ = k - i3) ?_ (k0 := k - (0)) ⟨0, gc, gh, gl, w2, lv_sub hl [1, 2, 0] rfl, hH, m0, m1, m2, m3, m4, m10, m11, m12, hF, by omega, CpI_0, rfl⟩
              intro k199 ls H locs hP ih199
              obtain ⟨i3, gc2, gh2, gl2, v, hl, hH, m0, m1, m2, m3, m4, m10, m11, m12, hF, hi3, hcp, hk199⟩ := hP
              refine lv_iload S.1 S.2.1 dX3_to_199 (lv_at hl 2 rfl) ?_
              refine lv_aload_n S.1 S.2.1 dX3_to_201 rfl (lv_at hl 0 rfl) ?_
              refine gfX3_47 S hK hH m0 dX3_to_202 ?_
              refine bn_ge (tgt := 271) S dX3_to_205 (by decide) (by omega) (fun c205 => ?_) (fun c205 => ?_)
              · skip
                refine lv_iconst (v := nI 1) S.1 S.2.1 dX3_to_271 (by decide) ?_
                exact rt_z S hr hlk hH dX3_to_272 (by decide) (⟨rfl, hF, ⟨_, _, _, _, m0, m10, m11, m12⟩, _, _, _, _, m1, m2, m3, m4, Or.inl ⟨rfl, hb0, hcut, slots_to hsl hz hS (by omega) hL1 hL2 hL3 hcut hk60 (by rw [show k = i3 by omega]; exact hcp)⟩⟩)
              · skip
                refine lv_aload_n S.1 S.2.1 dX3_to_208 rfl (lv_at hl 0 rfl) ?_
                refine gfX3_13 S hK hH m0 dX3_to_209 ?_
                refine lv_bipush (v := nI 60) S.1 S.2.1 dX3_to_212 (by decide) ?_
                refine lv_iload_n S.1 S.2.1 dX3_to_214 rfl (lv_at hl 1 rfl) ?_
                refine lv_imul S.1 S.2.1 dX3_to_215 ?_
                refine tpi (x' := nI (60 * z)) (pk_mul _ _) ?_
                refine lv_iload S.1 S.2.1 dX3_to_216 (lv_at hl 2 rfl) ?_
                refine lv_iadd S.1 S.2.1 dX3_to_218 ?_
                refine tpi (x' := nI (60 * z + i3)) (nI_add _ _) ?_
                refine lv_aload_n S.1 S.2.1 dX3_to_219 rfl (lv_at hl 0 rfl) ?_
                refine gfX3_38 S hK hH m0 dX3_to_220 ?_
                refine lv_iload S.1 S.2.1 dX3_to_223 (lv_at hl 2 rfl) ?_
                refine ald_l S hK hH m10 (by omega) (by omega) dX3_to_225 ?_
                refine ast_l S hK hH m2 (by omega) (by omega) dX3_to_226 (fun w3 H locs m2 fr hH => ?_)
                replace m0 := (fr (M) (by omega)).trans m0
                replace m1 := (fr (M + 1) (by omega)).trans m1
                replace m3 := (fr (M + 3) (by omega)).trans m3
                replace m4 := (fr (M + 4) (by omega)).trans m4
                replace m10 := (fr (M + 10) (by omega)).trans m10
                replace m11 := (fr (M + 11) (by omega)).trans m11
                replace m12 := (fr (M + 12) (by omega)).trans m12
                replace hF : ∀ b, b < M ∨ M + 13 ≤ b ∨ (M + 5 ≤ b ∧ b < M + 10) → w3 b = w b := fun b hb => (fr b (by omega)).trans (hF b hb)
                refine lv_aload_n S.1 S.2.1 dX3_to_227 rfl (lv_at hl 0 rfl) ?_
                refine gfX3_17 S hK hH m0 dX3_to_228 ?_
                refine lv_bipush (v := nI 60) S.1 S.2.1 dX3_to_231 (by decide) ?_
                refine lv_iload_n S.1 S.2.1 dX3_to_233 rfl (lv_at hl 1 rfl) ?_
                refine lv_imul S.1 S.2.1 dX3_to_234 ?_
                refine tpi (x' := nI (60 * z)) (pk_mul _ _) ?_
                refine lv_iload S.1 S.2.1 dX3_to_235 (lv_at hl 2 rfl) ?_
                refine lv_iadd S.1 S.2.1 dX3_to_237 ?_
                refine tpi (x' := nI (60 * z + i3)) (nI_add _ _) ?_
                refine lv_aload_n S.1 S.2.1 dX3_to_238 rfl (lv_at hl 0 rfl) ?_
                refine gfX3_41 S hK hH m0 dX3_to_239 ?_
                refine lv_iload S.1 S.2.1 dX3_to_242 (lv_at hl 2 rfl) ?_
                refine ald_l S hK hH m11 (by omega) (by omega) dX3_to_244 ?_
                refine ast_l S hK hH m3 (by omega) (by omega) dX3_to_245 (fun w4 H locs m3 fr hH => ?_)
                replace m0 := (fr (M) (by omega)).trans m0
                replace m1 := (fr (M + 1) (by omega)).trans m1
                replace m2 := (fr (M + 2) (by omega)).trans m2
                replace m4 := (fr (M + 4) (by omega)).trans m4
                replace m10 := (fr (M + 10) (by omega)).trans m10
                replace m11 := (fr (M + 11) (by omega)).trans m11
                replace m12 := (fr (M + 12) (by omega)).trans m12
                replace hF : ∀ b, b < M ∨ M + 13 ≤ b ∨ (M + 5 ≤ b ∧ b < M + 10) → w4 b = w b := fun b hb => (fr b (by omega)).trans (hF b hb)
                refine lv_aload_n S.1 S.2.1 dX3_to_246 rfl (lv_at hl 0 rfl) ?_
                refine gfX3_20 S hK hH m0 dX3_to_247 ?_
                refine lv_bipush (v := nI 60) S.1 S.2.1 dX3_to_250 (by decide) ?_
                refine lv_iload_n S.1 S.2.1 dX3_to_252 rfl (lv_at hl 1 rfl) ?_
                refine lv_imul S.1 S.2.1 dX3_to_253 ?_
                refine tpi (x' := nI (60 * z)) (pk_mul _ _) ?_
                refine lv_iload S.1 S.2.1 dX3_to_254 (lv_at hl 2 rfl) ?_
                refine lv_iadd S.1 S.2.1 dX3_to_256 ?_
                refine tpi (x' := nI (60 * z + i3)) (nI_add _ _) ?_
                refine lv_aload_n S.1 S.2.1 dX3_to_257 rfl (lv_at hl 0 rfl) ?_
                refine gfX3_44 S hK hH m0 dX3_to_258 ?_
                refine lv_iload S.1 S.2.1 dX3_to_261 (lv_at hl 2 rfl) ?_
                refine ald_l S hK hH m12 (by omega) (by omega) dX3_to_263 ?_
                refine ast_l S hK hH m4 (by omega) (by omega) dX3_to_264 (fun w5 H locs m4 fr hH => ?_)
                replace m0 := (fr (M) (by omega)).trans m0
                replace m1 := (fr (M + 1) (by omega)).trans m1
                replace m2 := (fr (M + 2) (by omega)).trans m2
                replace m3 := (fr (M + 3) (by omega)).trans m3
                replace m10 := (fr (M + 10) (by omega)).trans m10
                replace m11 := (fr (M + 11) (by omega)).trans m11
                replace m12 := (fr (M + 12) (by omega)).trans m12
                replace hF : ∀ b, b < M ∨ M + 13 ≤ b ∨ (M + 5 ≤ b ∧ b < M + 10) → w5 b = w b := fun b hb => (fr b (by omega)).trans (hF b hb)
                refine lv_iinc (v := nI (i3 + 1)) (lv' := [(4, .int (nI (i3 + 1))), (0, .ref (M)), (1, .int (nI z))]) S.1 S.2.1 dX3_to_265 hl (k := 2) rfl (nI_inc _ 1) (by decide) rfl (fun ls hl => ?_)
                refine lv_goto (tgt := 199) S.1 S.2.1 dX3_to_268 (by decide) ?_
                exact ih199 _ _ _ _ (by omega) ⟨i3 + 1, _, _, _, w5, lv_sub hl [1, 2, 0] rfl, hH, m0, m1, m2, m3, m4, m10, m11, m12, hF, by omega, hcp.step, rfl⟩
            · skip
              refine lv_iload S.1 S.2.1 dX3_to_142 (lv_at hl 2 rfl) ?_
              refine lv_istore (lv' := [(5, .int (nI i2)), (0, .ref (M)), (1, .int (nI z)), (4, .int (nI i2))]) S.1 S.2.1 dX3_to_144 hl (by decide) rfl (fun ls hl => ?_)
              refine wlp (P := fun k_ ls H' locs' => ∃ (j : Nat) (A : Ar) (fc fh fl : Nat → Int64) (v : Wm), lv_has ls 6 [(0, .ref (M)), (1, .int (nI z)), (4, .int (nI i2)), (5, .int (nI j))] ∧ HS G B v (n) s H' locs' ∧ v (M) = some (eO 3 [.ref (M + 1), .ref (M + 2), .ref (M + 3), .ref (M + 4), .int (hc), .int (pc), .ref (M + 5), .ref (M + 6), .ref (M + 7), .ref (M + 8), .ref (M + 9), .int (nI k), .int (big), .ref (M + 10), .ref (M + 11), .ref (M + 12)]) ∧ v (M + 1) = some (eI G (62) (ma)) ∧ v (M + 2) = some (eJ G (3720) (gc)) ∧ v (M + 3) = some (eJ G (3720) (gh)) ∧ v (M + 4) = some (eJ G (3720) (gl)) ∧ v (M + 10) = some (eJ G (3700) (fc)) ∧ v (M + 11) = some (eJ G (3700) (fh)) ∧ v (M + 12) = some (eJ G (3700) (fl)) ∧ (∀ b, b < M ∨ M + 13 ≤ b ∨ (M + 5 ≤ b ∧ b < M + 10) → v b = w b) ∧ (j ≤ i2) ∧ (SIn fc fh fl F A k i2 j) ∧ k_ = j) ?_ (k0 := (i2)) ⟨i2, A, fc, fh, fl, v, lv_sub hl [1, 2, 3, 0] rfl, hH, m0, m1, m2, m3, m4, m10, m11, m12, hF, by omega, hS.inn c139, rfl⟩
              intro k146 ls H locs hP ih146
              obtain ⟨j, A, fc, fh, fl, v, hl, hH, m0, m1, m2, m3, m4, m10, m11, m12, hF, hj2, hN, hk146⟩ := hP
              refine lv_iload S.1 S.2.1 dX3_to_146 (lv_at hl 3 rfl) ?_
              refine lv_if_le (tgt := 180) S.1 S.2.1 dX3_to_148 (by decide) (fun c148 => ?_) (fun c148 => ?_)
              · skip
                have j0 : j = 0 := by
                  rcases Nat.eq_zero_or_pos j with e | e
                  · exact e
                  · exact absurd c148 (nI_nle e (by omega))
                subst j0
                refine lv_iinc (v := nI (i2 + 1)) (lv' := [(4, .int (nI (i2 + 1))), (0, .ref (M)), (1, .int (nI z)), (5, .int (nI 0))]) S.1 S.2.1 dX3_to_180 hl (k := 2) rfl (nI_inc _ 1) (by decide) rfl (fun ls hl => ?_)
                refine lv_goto (tgt := 133) S.1 S.2.1 dX3_to_183 (by decide) ?_
                exact ih133 _ _ _ _ (by omega) ⟨i2 + 1, A, _, _, _, v, lv_sub hl [1, 2, 0] rfl, hH, m0, m1, m2, m3, m4, m10, m11, m12, hF, by omega, by omega, hN.out0 c139, rfl⟩
              · skip
                have j0 : 0 < j := by
                  rcases Nat.eq_zero_or_pos j with e | e
                  · rw [e] at c148; exact absurd (by decide) c148
                  · exact e
                refine lv_aload_n S.1 S.2.1 dX3_to_151 rfl (lv_at hl 0 rfl) ?_
                refine lv_iload S.1 S.2.1 dX3_to_152 (lv_at hl 3 rfl) ?_
                refine lv_iload S.1 S.2.1 dX3_to_154 (lv_at hl 3 rfl) ?_
                refine lv_iconst (v := nI 1) S.1 S.2.1 dX3_to_156 (by decide) ?_
                refine lv_isub S.1 S.2.1 dX3_to_157 ?_
                refine tpi (x' := nI (j - 1)) (pk_sub (by omega)) ?_
                refine ck_ip (run_V (As := [.int (nI j), .int (nI (j - 1))]) (rest := []) S hK hH (kX3_isAhead M j (j - 1) (A j).1 (A (j - 1)).1 hc pc (nI k) big fc fh fl m0 m10 m11 m12 (by omega) (by omega) (hN.1.2.2 j (by omega)).1 (hN.1.2.2 (j - 1) (by omega)).1 (hN.1.1 j (by omega)).2 (hN.1.1 (j - 1) (by omega)).2) ceX3_isAhead mW375 m0 rfl rfl hl.1 rfl (Nat.le_of_ble_eq_true rfl) dX3_to_158 ⟨rfl, rfl, by decide, by decide⟩ ⟨show 0 + 0 ≤ 0 by omega, show 0 + 0 ≤ 0 by omega⟩) hH (fun r158 H locs hp hH => ?_)
                have hq : Hid _ := hp
                clear hp
                refine lv_if_eq (tgt := 180) S.1 S.2.1 dX3_to_161 (by decide) (fun c161 => ?_) (fun c161 => ?_)
                · skip
                  rcases hq with ⟨e, _⟩ | ⟨_, hq⟩
                  · rw [e] at c161; exact absurd c161 (by decide)
                  refine lv_iinc (v := nI (i2 + 1)) (lv' := [(4, .int (nI (i2 + 1))), (0, .ref (M)), (1, .int (nI z)), (5, .int (nI j))]) S.1 S.2.1 dX3_to_180 hl (k := 2) rfl (nI_inc _ 1) (by decide) rfl (fun ls hl => ?_)
                  refine lv_goto (tgt := 133) S.1 S.2.1 dX3_to_183 (by decide) ?_
                  exact ih133 _ _ _ _ (by omega) ⟨i2 + 1, A, _, _, _, v, lv_sub hl [1, 2, 0] rfl, hH, m0, m1, m2, m3, m4, m10, m11, m12, hF, by omega, by omega, hN.out1 j0 hj2 c139 hq, rfl⟩
                · skip
                  rcases hq with ⟨_, hq⟩ | ⟨e, _⟩
                  rotate_left
                  · exact absurd e c161
                  refine lv_aload_n S.1 S.2.1 dX3_to_164 rfl (lv_at hl 0 rfl) ?_
                  refine lv_iload S.1 S.2.1 dX3_to_165 (lv_at hl 3 rfl) ?_
                  refine lv_iload S.1 S.2.1 dX3_to_167 (lv_at hl 3 rfl) ?_
                  refine lv_iconst (v := nI 1) S.1 S.2.1 dX3_to_169 (by decide) ?_
                  refine lv_isub S.1 S.2.1 dX3_to_170 ?_
                  refine tpi (x' := nI (j - 1)) (pk_sub (by omega)) ?_
                  refine ck_v (run_V (As := [.int (nI j), .int (nI (j - 1))]) (rest := []) S hK hH (kX3_swap M (j) (j - 1) hc pc (nI k) big fc fh fl m0 m10 m11 m12 (by omega) (by omega)) ceX3_swap mW369 m0 rfl rfl hl.1 rfl (Nat.le_of_ble_eq_true rfl) dX3_to_171 ⟨rfl, rfl, by decide, by decide⟩ ⟨show 0 + 0 ≤ 0 by omega, show 0 + 0 ≤ 0 by omega⟩) hH (fun w7 n7 H locs hp hH => ?_)
                  obtain ⟨hn1, hfr, ⟨m10, m11, m12⟩⟩ := hp
                  rw [hn1] at hH
                  replace m0 := (hfr (M) (by omega)).trans m0
                  replace m1 := (hfr (M + 1) (by omega)).trans m1
                  replace m2 := (hfr (M + 2) (by omega)).trans m2
                  replace m3 := (hfr (M + 3) (by omega)).trans m3
                  replace m4 := (hfr (M + 4) (by omega)).trans m4
                  replace hF : ∀ b, b < M ∨ M + 13 ≤ b ∨ (M + 5 ≤ b ∧ b < M + 10) → w7 b = w b := fun b hb => (hfr b (by omega)).trans (hF b hb)
                  refine lv_iinc (v := nI (j - 1)) (lv' := [(5, .int (nI (j - 1))), (0, .ref (M)), (1, .int (nI z)), (4, .int (nI i2))]) S.1 S.2.1 dX3_to_174 hl (k := 3) rfl (nI_dec (by omega)) (by decide) rfl (fun ls hl => ?_)
                  refine lv_goto (tgt := 146) S.1 S.2.1 dX3_to_177 (by decide) ?_
                  exact ih146 _ _ _ _ (by omega) ⟨j - 1, _, _, _, _, w7, lv_sub hl [1, 2, 3, 0] rfl, hH, m0, m1, m2, m3, m4, m10, m11, m12, hF, by omega, hN.sw j0 hj2 c139 hq, rfl⟩
          · skip
            refine lv_iconst (v := nI 0) S.1 S.2.1 dX3_to_128 (by decide) ?_
            exact rt_z S hr hlk hH dX3_to_129 (by decide) (⟨rfl, hF, ⟨_, _, _, _, m0, m10, m11, m12⟩, ma, gc, gh, gl, m1, m2, m3, m4, Or.inr ⟨rfl, fun e => to_bad (hC e) (by omega) (hA e).1 (hA e).2.1 (hA e).2.2 (GI_0 hg c125 e), hsl⟩⟩)
        · skip
          refine lv_iload_n S.1 S.2.1 dX3_to_80 rfl (lv_at hl 2 rfl) ?_
          refine lv_if_eq (tgt := 116) S.1 S.2.1 dX3_to_81 (by decide) (fun c81 => ?_) (fun c81 => ?_)
          · skip
            refine lv_iconst (v := nI 0) S.1 S.2.1 dX3_to_116 (by decide) ?_
            refine lv_istore_n (lv' := [(3, .int (nI 0)), (0, .ref (M)), (1, .int (nI z)), (4, .int (nI i1))]) S.1 S.2.1 dX3_to_117 rfl hl (by decide) rfl (fun ls hl => ?_)
            refine lv_iinc (v := nI (i1 + 1)) (lv' := [(4, .int (nI (i1 + 1))), (3, .int (nI 0)), (0, .ref (M)), (1, .int (nI z))]) S.1 S.2.1 dX3_to_118 hl (k := 3) rfl (nI_inc _ 1) (by decide) rfl (fun ls hl => ?_)
            refine lv_goto (tgt := 71) S.1 S.2.1 dX3_to_121 (by decide) ?_
            exact ih71 _ _ _ _ (by omega) ⟨i1 + 1, nI 0, lv_sub hl [2, 3, 1, 0] rfl, ⟨rfl, rfl⟩, by omega, GI_s0 hg c81, rfl⟩
          · skip
            refine lv_aload_n S.1 S.2.1 dX3_to_84 rfl (lv_at hl 0 rfl) ?_
            refine gfX3_38 S hK hH m0 dX3_to_85 ?_
            refine lv_iload S.1 S.2.1 dX3_to_88 (lv_at hl 3 rfl) ?_
            refine ald_l S hK hH m10 (by omega) (by omega) dX3_to_90 ?_
            refine lv_ldc2 S.1 S.2.1 S.2.2.2.1 (S.2.2.2.2 _ mW373) dX3_to_91 ?_
            refine tpl (x' := lI 99999999) (by decide) ?_
            refine bl_gt (tgt := 116) S dX3_to_94 dX3_to_95 (by decide) (fun c94 => ?_) (fun c94 => ?_)
            · skip
              refine lv_iconst (v := nI 0) S.1 S.2.1 dX3_to_116 (by decide) ?_
              refine lv_istore_n (lv' := [(3, .int (nI 0)), (0, .ref (M)), (1, .int (nI z)), (4, .int (nI i1))]) S.1 S.2.1 dX3_to_117 rfl hl (by decide) rfl (fun ls hl => ?_)
              refine lv_iinc (v := nI (i1 + 1)) (lv' := [(4, .int (nI (i1 + 1))), (3, .int (nI 0)), (0, .ref (M)), (1, .int (nI z))]) S.1 S.2.1 dX3_to_118 hl (k := 3) rfl (nI_inc _ 1) (by decide) rfl (fun ls hl => ?_)
              refine lv_goto (tgt := 71) S.1 S.2.1 dX3_to_121 (by decide) ?_
              exact ih71 _ _ _ _ (by omega) ⟨i1 + 1, nI 0, lv_sub hl [2, 3, 1, 0] rfl, ⟨rfl, rfl⟩, by omega, GI_s1 hg c81 c77 c94, rfl⟩
            · skip
              refine lv_aload_n S.1 S.2.1 dX3_to_98 rfl (lv_at hl 0 rfl) ?_
              refine gfX3_38 S hK hH m0 dX3_to_99 ?_
              refine lv_iload S.1 S.2.1 dX3_to_102 (lv_at hl 3 rfl) ?_
              refine ald_l S hK hH m10 (by omega) (by omega) dX3_to_104 ?_
              refine lv_ldc2 S.1 S.2.1 S.2.2.2.1 (S.2.2.2.2 _ mW374) dX3_to_105 ?_
              refine tpl (x' := lI (-99999999)) (by decide) ?_
              refine bl_lt (tgt := 116) S dX3_to_108 dX3_to_109 (by decide) (fun c108 => ?_) (fun c108 => ?_)
              · skip
                refine lv_iconst (v := nI 0) S.1 S.2.1 dX3_to_116 (by decide) ?_
                refine lv_istore_n (lv' := [(3, .int (nI 0)), (0, .ref (M)), (1, .int (nI z)), (4, .int (nI i1))]) S.1 S.2.1 dX3_to_117 rfl hl (by decide) rfl (fun ls hl => ?_)
                refine lv_iinc (v := nI (i1 + 1)) (lv' := [(4, .int (nI (i1 + 1))), (3, .int (nI 0)), (0, .ref (M)), (1, .int (nI z))]) S.1 S.2.1 dX3_to_118 hl (k := 3) rfl (nI_inc _ 1) (by decide) rfl (fun ls hl => ?_)
                refine lv_goto (tgt := 71) S.1 S.2.1 dX3_to_121 (by decide) ?_
                exact ih71 _ _ _ _ (by omega) ⟨i1 + 1, nI 0, lv_sub hl [2, 3, 1, 0] rfl, ⟨rfl, rfl⟩, by omega, GI_s2 hg c81 c77 c108, rfl⟩
              · skip
                refine lv_iconst (v := nI 1) S.1 S.2.1 dX3_to_112 (by decide) ?_
                refine lv_goto (tgt := 117) S.1 S.2.1 dX3_to_113 (by decide) ?_
                refine lv_istore_n (lv' := [(3, .int (nI 1)), (0, .ref (M)), (1, .int (nI z)), (4, .int (nI i1))]) S.1 S.2.1 dX3_to_117 rfl hl (by decide) rfl (fun ls hl => ?_)
                refine lv_iinc (v := nI (i1 + 1)) (lv' := [(4, .int (nI (i1 + 1))), (3, .int (nI 1)), (0, .ref (M)), (1, .int (nI z))]) S.1 S.2.1 dX3_to_118 hl (k := 3) rfl (nI_inc _ 1) (by decide) rfl (fun ls hl => ?_)
                refine lv_goto (tgt := 71) S.1 S.2.1 dX3_to_121 (by decide) ?_
                exact ih71 _ _ _ _ (by omega) ⟨i1 + 1, nI 1, lv_sub hl [2, 3, 1, 0] rfl, ⟨rfl, rfl⟩, by omega, GI_s3 hg c81 ⟨c94, c108⟩, rfl⟩
  · skip
    refine lv_aload_n S.1 S.2.1 dX3_to_12 rfl (lv_at hl 0 rfl) ?_
    refine gfX3_38 S hK hH m0 dX3_to_13 ?_
    refine lv_iload_n S.1 S.2.1 dX3_to_16 rfl (lv_at hl 3 rfl) ?_
    refine ald_l S hK hH m10 (by omega) (by omega) dX3_to_17 ?_
    refine lv_lconst (v := lI 0) S.1 S.2.1 dX3_to_18 (by decide) ?_
    refine bl_ne (tgt := 26) S dX3_to_19 dX3_to_20 (by decide) (fun c19 => ?_) (fun c19 => ?_)
    · skip
      refine lv_aload_n S.1 S.2.1 dX3_to_26 rfl (lv_at hl 0 rfl) ?_
      refine lv_iload_n S.1 S.2.1 dX3_to_27 rfl (lv_at hl 3 rfl) ?_
      refine lv_iload_n S.1 S.2.1 dX3_to_28 rfl (lv_at hl 2 rfl) ?_
      refine ck_v (run_V (As := [.int (nI i), .int (nI k)]) (rest := []) S hK hH (kX3_swap M (i) (k) hc pc (nI m) big fc fh fl m0 m10 m11 m12 (by omega) (by omega)) ceX3_swap mW369 m0 rfl rfl hl.1 rfl (Nat.le_of_ble_eq_true rfl) dX3_to_29 ⟨rfl, rfl, by decide, by decide⟩ ⟨show 0 + 0 ≤ 0 by omega, show 0 + 0 ≤ 0 by omega⟩) hH (fun w8 n8 H locs hp hH => ?_)
      obtain ⟨hn1, hfr, ⟨m10, m11, m12⟩⟩ := hp
      rw [hn1] at hH
      replace m0 := (hfr (M) (by omega)).trans m0
      replace m1 := (hfr (M + 1) (by omega)).trans m1
      replace m2 := (hfr (M + 2) (by omega)).trans m2
      replace m3 := (hfr (M + 3) (by omega)).trans m3
      replace m4 := (hfr (M + 4) (by omega)).trans m4
      replace hF : ∀ b, b < M ∨ M + 13 ≤ b ∨ (M + 5 ≤ b ∧ b < M + 10) → w8 b = w b := fun b hb => (hfr b (by omega)).trans (hF b hb)
      refine lv_iinc (v := nI (k + 1)) (lv' := [(2, .int (nI (k + 1))), (0, .ref (M)), (1, .int (nI z)), (3, .int (nI i))]) S.1 S.2.1 dX3_to_32 hl (k := 2) rfl (nI_inc _ 1) (by decide) rfl (fun ls hl => ?_)
      refine lv_iinc (v := nI (i + 1)) (lv' := [(3, .int (nI (i + 1))), (2, .int (nI (k + 1))), (0, .ref (M)), (1, .int (nI z))]) S.1 S.2.1 dX3_to_35 hl (k := 3) rfl (nI_inc _ 1) (by decide) rfl (fun ls hl => ?_)
      refine lv_goto (tgt := 4) S.1 S.2.1 dX3_to_38 (by decide) ?_
      exact ih4 _ _ _ _ (by omega) ⟨i + 1, k + 1, _, _, _, w8, lv_sub hl [2, 3, 1, 0] rfl, hH, m0, m1, m2, m3, m4, m10, m11, m12, hF, by omega, by omega, fun e => (hC e).swap c9 hki c19, rfl⟩
    · skip
      refine lv_goto (tgt := 35) S.1 S.2.1 dX3_to_23 (by decide) ?_
      refine lv_iinc (v := nI (i + 1)) (lv' := [(3, .int (nI (i + 1))), (0, .ref (M)), (1, .int (nI z)), (2, .int (nI k))]) S.1 S.2.1 dX3_to_35 hl (k := 3) rfl (nI_inc _ 1) (by decide) rfl (fun ls hl => ?_)
      refine lv_goto (tgt := 4) S.1 S.2.1 dX3_to_38 (by decide) ?_
      exact ih4 _ _ _ _ (by omega) ⟨i + 1, k, _, _, _, v, lv_sub hl [1, 2, 3, 0] rfl, hH, m0, m1, m2, m3, m4, m10, m11, m12, hF, by omega, by omega, fun e => (hC e).skip c9 c19, rfl⟩

