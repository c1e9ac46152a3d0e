/-! ===== the reference's work row: codes and coefficients at places ===== -/
abbrev Ar : Type := Nat → Nat × Int
def sA (A : Ar) (m c : Nat) : Int := sumN (fun i => if (A i).1 = c then (A i).2 else 0) m
def dis (A : Ar) (m : Nat) : Prop := ∀ i j, i < m → j < m → (A i).1 = (A j).1 → i = j
def swA (A : Ar) (i j : Nat) : Ar := fun x => if x = i then A j else if x = j then A i else A x
def swF {α : Type} (f : Nat → α) (i j : Nat) : Nat → α := fun x => if x = i then f j else if x = j then f i else f x
theorem sumN_up {f g : Nat → Int} {n k : Nat} (hk : k < n) (h : ∀ i, i < n → i ≠ k → g i = f i) : sumN g n = sumN f n + (g k - f k) := by
  induction n with
  | zero => omega
  | succ n ih =>
    rw [sumN, sumN]
    rcases Nat.lt_or_ge k n with q | q
    · rw [ih q (fun i h1 h2 => h i (by omega) h2), h n (by omega) (by omega)]; omega
    · have e : k = n := by omega
      subst e
      rw [sumN_congr (fun i hi => h i (by omega) (by omega))]; omega
theorem sumN_sw {f : Nat → Int} {n i j : Nat} (hi : i < n) (hj : j < n) : sumN (swF f i j) n = sumN f n := by
  by_cases e : i = j
  · subst e
    apply sumN_congr
    intro x _
    unfold swF
    by_cases q : x = i
    · rw [if_pos q, q]
    · rw [if_neg q, if_neg q]
  · have h1 := sumN_up (f := f) (g := fun x => if x = i then f j else f x) hi (fun x _ q => if_neg q)
    have h2 := sumN_up (f := fun x => if x = i then f j else f x) (g := swF f i j) hj (fun x _ q => by
      show swF f i j x = if x = i then f j else f x
      unfold swF
      rw [if_neg q])
    have e1 : (if i = i then f j else f i) = f j := if_pos rfl
    have e2 : (if j = i then f j else f j) = f j := if_neg (Ne.symm e)
    have e3 : swF f i j j = f i := by unfold swF; rw [if_neg (Ne.symm e), if_pos rfl]
    rw [e1] at h1
    rw [e2, e3] at h2
    omega
theorem sA_sw {A : Ar} {m i j : Nat} (hi : i < m) (hj : j < m) (c : Nat) : sA (swA A i j) m c = sA A m c := by
  unfold sA
  rw [← sumN_sw (f := fun i => if (A i).1 = c then (A i).2 else 0) hi hj]
  apply sumN_congr
  intro x _
  unfold swA swF
  by_cases q : x = i
  · rw [if_pos q, if_pos q]
  · rw [if_neg q, if_neg q]
    by_cases r : x = j
    · rw [if_pos r, if_pos r]
    · rw [if_neg r, if_neg r]
theorem swA_in {A : Ar} {m i j : Nat} (hi : i < m) (hj : j < m) {x : Nat} (hx : x < m) : ∃ y, y < m ∧ swA A i j x = A y ∧ (x = i → y = j) ∧ (x ≠ i → x = j → y = i) ∧ (x ≠ i → x ≠ j → y = x) := by
  unfold swA
  by_cases q : x = i
  · exact ⟨j, hj, if_pos q, fun _ => rfl, fun h => absurd q h, fun h => absurd q h⟩
  · by_cases r : x = j
    · exact ⟨i, hi, by rw [if_neg q, if_pos r], fun h => absurd h q, fun _ _ => rfl, fun _ h => absurd r h⟩
    · exact ⟨x, hx, by rw [if_neg q, if_neg r], fun h => absurd h q, fun _ h => absurd h r, fun _ _ => rfl⟩
theorem dis_sw {A : Ar} {m i j : Nat} (h : dis A m) (hi : i < m) (hj : j < m) : dis (swA A i j) m := by
  intro x y hx hy e
  obtain ⟨x', h1, h2, h3, h4, h5⟩ := swA_in (A := A) hi hj hx
  obtain ⟨y', g1, g2, g3, g4, g5⟩ := swA_in (A := A) hi hj hy
  rw [h2, g2] at e
  have e2 := h x' y' h1 g1 e
  by_cases a1 : x = i
  · have := h3 a1
    by_cases a2 : y = i
    · omega
    · by_cases a3 : y = j
      · have := g4 a2 a3
        omega
      · have := g5 a2 a3
        omega
  · by_cases b1 : x = j
    · have := h4 a1 b1
      by_cases a2 : y = i
      · have := g3 a2
        omega
      · by_cases a3 : y = j
        · omega
        · have := g5 a2 a3
          omega
    · have := h5 a1 b1
      by_cases a2 : y = i
      · have := g3 a2
        omega
      · by_cases a3 : y = j
        · have := g4 a2 a3
          omega
        · have := g5 a2 a3
          omega
theorem all_sw {A : Ar} {m i j : Nat} {Pr : Nat × Int → Prop} (h : ∀ x, x < m → Pr (A x)) (hi : i < m) (hj : j < m) : ∀ x, x < m → Pr (swA A i j x) := by
  intro x hx
  obtain ⟨y, h1, h2, -⟩ := swA_in (A := A) hi hj hx
  rw [h2]; exact h y h1
/-- a list in order out of the first k places -/
def ins (t : Nat × Int) : PL → PL
  | [] => [t]
  | s :: L => if s.1 < t.1 then t :: s :: L else s :: ins t L
def srtA (A : Ar) : Nat → PL
  | 0 => []
  | k + 1 => ins (A k) (srtA A k)
theorem ins_len (t : Nat × Int) : ∀ L : PL, (ins t L).length = L.length + 1
  | [] => rfl
  | s :: L => by
    rw [ins]
    split
    · rfl
    · rw [List.length_cons, ins_len t L]; rfl
theorem ins_mem {t x : Nat × Int} : ∀ {L : PL}, x ∈ ins t L ↔ x = t ∨ x ∈ L
  | [] => by simp [ins]
  | s :: L => by
    rw [ins]
    split
    · simp
    · rw [List.mem_cons, ins_mem, List.mem_cons]
      constructor
      · rintro (h | h | h)
        · exact Or.inr (Or.inl h)
        · exact Or.inl h
        · exact Or.inr (Or.inr h)
      · rintro (h | h | h)
        · exact Or.inr (Or.inl h)
        · exact Or.inl h
        · exact Or.inr (Or.inr h)
theorem ins_co (t : Nat × Int) (c : Nat) : ∀ L : PL, co (ins t L) c = (if t.1 = c then t.2 else 0) + co L c
  | [] => rfl
  | s :: L => by
    rw [ins]
    split
    · rfl
    · rw [co, ins_co t c L, co]; omega
theorem ins_srt {t : Nat × Int} : ∀ {L : PL}, Srt L → (∀ s ∈ L, s.1 ≠ t.1) → Srt (ins t L)
  | [], _, _ => srt_cons.mpr ⟨fun s h => (by cases h), srt_nil⟩
  | s :: L, h, hn => by
    obtain ⟨h1, h2⟩ := srt_cons.mp h
    rw [ins]
    split
    · rename_i q
      exact srt_cons.mpr ⟨fun x hx => by
        rcases List.mem_cons.mp hx with rfl | hx
        · exact q
        · exact Nat.lt_trans (h1 x hx) q, h⟩
    · rename_i q
      refine srt_cons.mpr ⟨fun x hx => ?_, ins_srt h2 (fun x hx => hn x (List.mem_cons_of_mem _ hx))⟩
      rcases ins_mem.mp hx with rfl | hx
      · have := hn s List.mem_cons_self
        omega
      · exact h1 x hx
theorem srtA_len (A : Ar) : ∀ k, (srtA A k).length = k
  | 0 => rfl
  | k + 1 => by rw [srtA, ins_len, srtA_len A k]
theorem srtA_mem (A : Ar) {x : Nat × Int} : ∀ {k}, x ∈ srtA A k ↔ ∃ i, i < k ∧ x = A i
  | 0 => by simp [srtA]
  | k + 1 => by
    rw [srtA, ins_mem, srtA_mem A]
    constructor
    · rintro (h | ⟨i, h1, h2⟩)
      · exact ⟨k, by omega, h⟩
      · exact ⟨i, by omega, h2⟩
    · rintro ⟨i, h1, h2⟩
      rcases Nat.lt_or_ge i k with q | q
      · exact Or.inr ⟨i, q, h2⟩
      · exact Or.inl (by rw [show k = i by omega]; exact h2)
theorem srtA_co (A : Ar) (c : Nat) : ∀ k, co (srtA A k) c = sA A k c
  | 0 => rfl
  | k + 1 => by
    rw [srtA, ins_co, srtA_co A c k]
    unfold sA
    rw [sumN]; omega
theorem srtA_srt {A : Ar} : ∀ {k}, dis A k → Srt (srtA A k)
  | 0, _ => srt_nil
  | k + 1, h => by
    rw [srtA]
    refine ins_srt (srtA_srt (fun i j hi hj e => h i j (by omega) (by omega) e)) (fun s hs e => ?_)
    obtain ⟨i, h1, rfl⟩ := (srtA_mem A).mp hs
    have := h i k (by omega) (by omega) e
    omega
/-- the list of the first k places as they stand -/
def lsA (A : Ar) (k : Nat) : PL := (List.range k).map A
theorem lsA_len (A : Ar) (k : Nat) : (lsA A k).length = k := by simp [lsA]
theorem lsA_at (A : Ar) {k j : Nat} (h : j < k) : (cd (lsA A k) j, cf (lsA A k) j) = A j := by
  unfold cd cf lsA
  simp [List.getD_eq_getElem?_getD, h]
theorem lsA_srt {A : Ar} {k : Nat} (h : ∀ x y, x < y → y < k → (A y).1 < (A x).1) : Srt (lsA A k) := by
  unfold Srt
  rw [List.pairwise_iff_getElem]
  intro i j hi hj hij
  simp only [lsA, List.getElem_map, List.getElem_range]
  rw [lsA_len] at hj
  exact h i j hij hj
theorem lsA_co (A : Ar) (c : Nat) : ∀ k, co (lsA A k) c = sA A k c
  | 0 => rfl
  | k + 1 => by
    have e : lsA A (k + 1) = lsA A k ++ [A k] := by simp [lsA, List.range_succ]
    have ap : ∀ (L : PL) (t : Nat × Int), co (L ++ [t]) c = co L c + (if t.1 = c then t.2 else 0) := by
      intro L t
      induction L with
      | nil => simp [co]
      | cons s L ih => rw [List.cons_append, co, ih, co]; omega
    rw [e, ap, lsA_co A c k]
    rfl
theorem lsA_mem {A : Ar} {k : Nat} {x : Nat × Int} : x ∈ lsA A k ↔ ∃ i, i < k ∧ x = A i := by
  simp only [lsA, List.mem_map, List.mem_range]
  constructor
  · rintro ⟨i, h1, h2⟩; exact ⟨i, h1, h2.symm⟩
  · rintro ⟨i, h1, h2⟩; exact ⟨i, h1, h2.symm⟩
/-- what the work row holds while it is right -/
def Area (fc fh fl : Nat → Int64) (A : Ar) (m : Nat) : Prop := (∀ i, i < m → fc i = lI (A i).2 ∧ fh i = lN (hiC (A i).1) ∧ fl i = lN (loC (A i).1)) ∧ dis A m ∧ ∀ i, i < m → vC (A i).1 ∧ -4611686018427387904 ≤ (A i).2 ∧ (A i).2 < 4611686018427387904
theorem swF_at {α : Type} {f : Nat → α} {g : Nat × Int → α} {A : Ar} {m i j : Nat} (h : ∀ x, x < m → f x = g (A x)) (hi : i < m) (hj : j < m) : ∀ x, x < m → swF f i j x = g (swA A i j x) := by
  intro x hx
  unfold swF swA
  by_cases q : x = i
  · rw [if_pos q, if_pos q]; exact h j hj
  · rw [if_neg q, if_neg q]
    by_cases r : x = j
    · rw [if_pos r, if_pos r]; exact h i hi
    · rw [if_neg r, if_neg r]; exact h x hx
theorem Area.sw {fc fh fl : Nat → Int64} {A : Ar} {m i j : Nat} (h : Area fc fh fl A m) (hi : i < m) (hj : j < m) : Area (swF fc i j) (swF fh i j) (swF fl i j) (swA A i j) m :=
  ⟨fun x hx => ⟨swF_at (g := fun t => lI t.2) (fun y hy => (h.1 y hy).1) hi hj x hx, swF_at (g := fun t => lN (hiC t.1)) (fun y hy => (h.1 y hy).2.1) hi hj x hx, swF_at (g := fun t => lN (loC t.1)) (fun y hy => (h.1 y hy).2.2) hi hj x hx⟩, dis_sw h.2.1 hi hj, all_sw (Pr := fun t => vC t.1 ∧ -4611686018427387904 ≤ t.2 ∧ t.2 < 4611686018427387904) h.2.2 hi hj⟩
/-- one more term put to the work row -/
theorem Area.hit {fc fh fl : Nat → Int64} {A : Ar} {m i c : Nat} {k : Int} (h : Area fc fh fl A m) (hi : i < m) (hc : vC c) (h1 : fh i = lN (hiC c)) (h2 : fl i = lN (loC c)) (hb : -4611686018427387904 ≤ (A i).2 + k ∧ (A i).2 + k < 4611686018427387904) : (A i).1 = c ∧ Area (vp_updL fc i (fc i + lI k)) fh fl (va_up A i (c, (A i).2 + k)) m ∧ ∀ x, sA (va_up A i (c, (A i).2 + k)) m x = sA A m x + (if c = x then k else 0) := by
  have hv := h.2.2 i hi
  have b1 : hiC (A i).1 < 800000000000000000 := cv8_lt _
  have b2 : loC (A i).1 < 800000000000000000 := cv8_lt _
  have b3 : hiC c < 800000000000000000 := cv8_lt _
  have b4 : loC c < 800000000000000000 := cv8_lt _
  have hcode : (A i).1 = c := vC_inj hv.1 hc ⟨(pk_lEQ (by omega) (by omega)).mp ((h.1 i hi).2.1.symm.trans h1), (pk_lEQ (by omega) (by omega)).mp ((h.1 i hi).2.2.symm.trans h2)⟩
  have code : ∀ x, (va_up A i (c, (A i).2 + k) x).1 = (A x).1 := by
    intro x
    by_cases q : x = i
    · subst q; rw [va_up_self]; exact hcode.symm
    · rw [va_up_ne _ _ q]
  refine ⟨hcode, ⟨fun x hx => ?_, fun x y hx hy e => h.2.1 x y hx hy (by rw [← code x, ← code y]; exact e), fun x hx => ?_⟩, fun x => ?_⟩
  · by_cases q : x = i
    · subst q
      rw [va_up_self, pk_uLs, (h.1 x hx).1, lI_add]
      exact ⟨rfl, h1, h2⟩
    · rw [va_up_ne _ _ q, pk_uLn q]
      exact h.1 x hx
  · by_cases q : x = i
    · subst q
      rw [va_up_self]
      exact ⟨hc, hb⟩
    · rw [va_up_ne _ _ q]
      exact h.2.2 x hx
  · unfold sA
    rw [sumN_up (f := fun i => if (A i).1 = x then (A i).2 else 0) hi (fun y _ q => by show (if (va_up A i (c, (A i).2 + k) y).1 = x then _ else _) = _; rw [va_up_ne _ _ q])]
    simp only [va_up_self, hcode]
    split <;> omega
theorem Area.new {fc fh fl : Nat → Int64} {A : Ar} {m c : Nat} {k : Int} (h : Area fc fh fl A m) (hc : vC c) (hn : ∀ i, i < m → ¬ (fh i = lN (hiC c) ∧ fl i = lN (loC c))) (hb : -4611686018427387904 ≤ k ∧ k < 4611686018427387904) : Area (vp_updL (vp_updL fc m (lI 0)) m (lI 0 + lI k)) (vp_updL fh m (lN (hiC c))) (vp_updL fl m (lN (loC c))) (va_up A m (c, k)) (m + 1) ∧ (∀ i, i < m → (A i).1 ≠ c) ∧ ∀ x, sA (va_up A m (c, k)) (m + 1) x = sA A m x + (if c = x then k else 0) := by
  have hno : ∀ i, i < m → (A i).1 ≠ c := by
    intro i hi e
    refine hn i hi ⟨?_, ?_⟩
    · rw [(h.1 i hi).2.1, e]
    · rw [(h.1 i hi).2.2, e]
  refine ⟨⟨fun x hx => ?_, fun x y hx hy e => ?_, fun x hx => ?_⟩, hno, fun x => ?_⟩
  · by_cases q : x = m
    · subst q
      rw [va_up_self, pk_uLs, pk_uLs, pk_uLs, lI_add, Int.zero_add]
      exact ⟨rfl, rfl, rfl⟩
    · rw [va_up_ne _ _ q, pk_uLn q, pk_uLn q, pk_uLn q, pk_uLn q]
      exact h.1 x (by omega)
  · by_cases q : x = m <;> by_cases r : y = m
    · omega
    · subst q
      rw [va_up_self, va_up_ne _ _ r] at e
      exact absurd e.symm (hno y (by omega))
    · subst r
      rw [va_up_self, va_up_ne _ _ q] at e
      exact absurd e (hno x (by omega))
    · rw [va_up_ne _ _ q, va_up_ne _ _ r] at e
      exact h.2.1 x y (by omega) (by omega) e
  · by_cases q : x = m
    · subst q
      rw [va_up_self]
      exact ⟨hc, hb⟩
    · rw [va_up_ne _ _ q]
      exact h.2.2 x (by omega)
  · unfold sA
    rw [sumN, va_up_self, sumN_congr (g := fun i => if (A i).1 = x then (A i).2 else 0) (fun y hy => by rw [va_up_ne _ _ (by omega)])]
