/-! ===== sums of terms, as functions of codes ===== -/
def co : PL → Nat → Int
  | [], _ => 0
  | t :: L, c => (if t.1 = c then t.2 else 0) + co L c
def Srt (L : PL) : Prop := L.Pairwise (fun a b => b.1 < a.1)
theorem srt_nil : Srt [] := List.Pairwise.nil
theorem srt_cons {t : Nat × Int} {L : PL} : Srt (t :: L) ↔ (∀ s ∈ L, s.1 < t.1) ∧ Srt L := List.pairwise_cons
theorem co_out {L : PL} {c : Nat} (h : ∀ t ∈ L, t.1 ≠ c) : co L c = 0 := by
  induction L with
  | nil => rfl
  | cons t L ih =>
    rw [co, if_neg (h t List.mem_cons_self), ih (fun s hs => h s (List.mem_cons_of_mem _ hs))]
    rfl
theorem co_head {t : Nat × Int} {L : PL} (h : Srt (t :: L)) : co (t :: L) t.1 = t.2 := by
  rw [co, if_pos rfl, co_out (fun s hs => Nat.ne_of_lt ((srt_cons.mp h).1 s hs))]
  omega
theorem co_mem {L : PL} {t : Nat × Int} (hs : Srt L) (ht : t ∈ L) : co L t.1 = t.2 := by
  induction L with
  | nil => cases ht
  | cons s L ih =>
    rcases List.mem_cons.mp ht with rfl | h
    · exact co_head hs
    · have h1 := (srt_cons.mp hs).1 t h
      rw [co, if_neg (by omega), ih (srt_cons.mp hs).2 h]
      omega
theorem co_ne {L : PL} {c : Nat} (h : co L c ≠ 0) : ∃ t ∈ L, t.1 = c := by
  apply Classical.byContradiction
  intro q
  exact h (co_out (fun t ht e => q ⟨t, ht, e⟩))
/-- a sorted list without noughts is known by its coefficients -/
theorem srt_uniq : ∀ {L M : PL}, Srt L → (∀ t ∈ L, t.2 ≠ 0) → Srt M → (∀ t ∈ M, t.2 ≠ 0) → (∀ c, co L c = co M c) → L = M
  | [], [], _, _, _, _, _ => rfl
  | [], s :: M, _, _, h3, h4, h => by
    have := h s.1
    rw [co_head h3] at this
    exact absurd this.symm (h4 s List.mem_cons_self)
  | t :: L, [], h1, h2, _, _, h => by
    have := h t.1
    rw [co_head h1] at this
    exact absurd this (h2 t List.mem_cons_self)
  | t :: L, s :: M, h1, h2, h3, h4, h => by
    have e1 := h t.1
    have e2 := h s.1
    rw [co_head h1] at e1
    rw [co_head h3] at e2
    have n1 := h2 t List.mem_cons_self
    have n2 := h4 s List.mem_cons_self
    have hc : t.1 = s.1 := by
      rcases Nat.lt_trichotomy t.1 s.1 with q | q | q
      · have : co (t :: L) s.1 = 0 := co_out (fun x hx => by
          rcases List.mem_cons.mp hx with rfl | hx
          · omega
          · have := (srt_cons.mp h1).1 x hx
            omega)
        omega
      · exact q
      · have : co (s :: M) t.1 = 0 := co_out (fun x hx => by
          rcases List.mem_cons.mp hx with rfl | hx
          · omega
          · have := (srt_cons.mp h3).1 x hx
            omega)
        omega
    have hv : t.2 = s.2 := by
      rw [e1, hc, co_head h3]
    have hts : t = s := Prod.ext hc hv
    subst hts
    have hL : L = M := srt_uniq (srt_cons.mp h1).2 (fun x hx => h2 x (List.mem_cons_of_mem _ hx)) (srt_cons.mp h3).2 (fun x hx => h4 x (List.mem_cons_of_mem _ hx)) (fun c => by
      have := h c
      rw [co, co] at this
      omega)
    rw [hL]
theorem srt_cd {L : PL} (h : Srt L) {i j : Nat} (hij : i < j) (hj : j < L.length) : cd L j < cd L i := by
  have e1 : L.getD i (0, 0) = L[i]'(by omega) := by simp [List.getD_eq_getElem?_getD, Nat.lt_trans hij hj]
  have e2 : L.getD j (0, 0) = L[j] := by simp [List.getD_eq_getElem?_getD, hj]
  unfold cd
  rw [e1, e2]
  exact List.pairwise_iff_getElem.mp h i j (by omega) hj hij
theorem srt_cd_le {L : PL} (h : Srt L) {i j : Nat} (hij : i ≤ j) (hj : j < L.length) : cd L j ≤ cd L i := by
  rcases Nat.lt_or_ge i j with q | q
  · exact Nat.le_of_lt (srt_cd h q hj)
  · rw [show i = j by omega]; exact Nat.le_refl _
theorem mem_cd {L : PL} {t : Nat × Int} (h : t ∈ L) : ∃ j, j < L.length ∧ t = (cd L j, cf L j) := by
  obtain ⟨j, hj, e⟩ := List.getElem_of_mem h
  refine ⟨j, hj, ?_⟩
  have e1 : L.getD j (0, 0) = L[j] := by simp [List.getD_eq_getElem?_getD, hj]
  unfold cd cf
  rw [e1, e]
/-! ===== what is put together one by one ===== -/
def nz (T : PL) : PL := T.filter (fun t => decide (t.2 ≠ 0))
def inB (t : Nat × Int) : Bool := decide (-99999999 ≤ t.2 ∧ t.2 ≤ 99999999)
/-- a list that fits, or nothing -/
def cut (cap : Nat) (L : PL) : Option PL := if L.length ≤ cap ∧ L.all inB = true then some L else none
def appAll (cap : Nat) : PL → PL → Option PL
  | acc, [] => some acc
  | acc, t :: T => (app cap acc t.1 t.2).bind (fun a => appAll cap a T)
theorem appAll_eq {cap : Nat} : ∀ {T acc : PL}, acc.length ≤ cap → acc.all inB = true → appAll cap acc T = cut cap (acc ++ nz T)
  | [], acc, h1, h2 => by
    rw [appAll, nz, List.filter_nil, List.append_nil, cut, if_pos ⟨h1, h2⟩]
  | t :: T, acc, h1, h2 => by
    rw [appAll, app]
    by_cases h0 : t.2 = 0
    · rw [if_pos h0, Option.bind_some, appAll_eq h1 h2]
      simp [nz, h0]
    · have hz : nz (t :: T) = t :: nz T := by simp [nz, h0]
      rw [if_neg h0, hz]
      by_cases hb : 99999999 < t.2 ∨ t.2 < -99999999 ∨ cap ≤ acc.length
      · rw [if_pos hb, cut, if_neg]
        · rfl
        · rintro ⟨q1, q2⟩
          rw [List.length_append, List.length_cons] at q1
          rw [List.all_append, List.all_cons] at q2
          have q3 : inB t = true := by
            cases e : inB t
            · rw [e] at q2; simp at q2
            · rfl
          have q4 := of_decide_eq_true q3
          omega
      · rw [if_neg hb, Option.bind_some, appAll_eq (by rw [List.length_append]; simp; omega) (by
          rw [List.all_append, h2]
          have : inB t = true := decide_eq_true (by omega)
          simp [this])]
        rw [List.append_assoc]; rfl
theorem co_nz (T : PL) (c : Nat) : co (nz T) c = co T c := by
  induction T with
  | nil => rfl
  | cons t T ih =>
    by_cases h0 : t.2 = 0
    · have hz : nz (t :: T) = nz T := by simp [nz, h0]
      rw [hz, ih, co, h0]; simp
    · have hz : nz (t :: T) = t :: nz T := by simp [nz, h0]
      rw [hz, co, co, ih]
theorem srt_nz {T : PL} (h : Srt T) : Srt (nz T) := List.Pairwise.sublist List.filter_sublist h
theorem nz_ne {T : PL} : ∀ t ∈ nz T, t.2 ≠ 0 := fun t h => by
  have := (List.mem_filter.mp h).2
  exact of_decide_eq_true this
theorem cut_some {cap : Nat} {L M : PL} (h : cut cap L = some M) : M = L ∧ L.length ≤ cap ∧ ∀ t ∈ L, -99999999 ≤ t.2 ∧ t.2 ≤ 99999999 := by
  unfold cut at h
  split at h
  · rename_i q
    cases h
    exact ⟨rfl, q.1, fun t ht => of_decide_eq_true (List.all_eq_true.mp q.2 t ht)⟩
  · cases h
/-! ===== the sum ===== -/
def tstr (sg : Int) : Nat → PL → PL → PL
  | 0, _, _ => []
  | f + 1, X, Y => if X.length = 0 ∧ Y.length = 0 then [] else (nxt sg X Y).1 :: tstr sg f (nxt sg X Y).2.1 (nxt sg X Y).2.2
theorem tsum_str (cap : Nat) (sg : Int) : ∀ (f : Nat) (acc X Y : PL), tsum cap sg f acc X Y = appAll cap acc (tstr sg f X Y)
  | 0, acc, X, Y => rfl
  | f + 1, acc, X, Y => by
    rw [tsum, tstr]
    by_cases h : X.length = 0 ∧ Y.length = 0
    · rw [if_pos h, if_pos h]; rfl
    · rw [if_neg h, if_neg h, appAll]
      congr 1
      funext a
      exact tsum_str cap sg f a _ _
theorem tstr_ok (sg : Int) : ∀ (f : Nat) (X Y : PL), Srt X → Srt Y → X.length + Y.length ≤ f → (∀ b, (∀ t ∈ X, t.1 < b) → (∀ t ∈ Y, t.1 < b) → ∀ t ∈ tstr sg f X Y, t.1 < b) ∧ Srt (tstr sg f X Y) ∧ (∀ c, co (tstr sg f X Y) c = co X c + sg * co Y c) ∧ ∀ t ∈ tstr sg f X Y, (∃ s ∈ X, s.1 = t.1) ∨ ∃ s ∈ Y, s.1 = t.1
  | 0, X, Y, hX, hY, hf => by
    have h1 : X = [] := List.eq_nil_of_length_eq_zero (by omega)
    have h2 : Y = [] := List.eq_nil_of_length_eq_zero (by omega)
    subst h1; subst h2
    exact ⟨fun b _ _ t h => (by cases h), srt_nil, fun c => (by simp [tstr, co]), fun t h => (by cases h)⟩
  | f + 1, [], [], hX, hY, hf => by
    rw [tstr, if_pos ⟨rfl, rfl⟩]
    exact ⟨fun b _ _ t h => (by cases h), srt_nil, fun c => (by simp [co]), fun t h => (by cases h)⟩
  | f + 1, x :: X, [], hX, hY, hf => by
    rw [tstr, if_neg (by simp)]
    show (∀ b, _ → _ → ∀ t ∈ (x.1, 0 + x.2) :: tstr sg f X [], t.1 < b) ∧ Srt ((x.1, 0 + x.2) :: tstr sg f X []) ∧ (∀ c, co ((x.1, 0 + x.2) :: tstr sg f X []) c = _) ∧ ∀ t ∈ (x.1, 0 + x.2) :: tstr sg f X [], _
    obtain ⟨h1, h2⟩ := srt_cons.mp hX
    obtain ⟨i1, i2, i3, i4⟩ := tstr_ok sg f X [] h2 hY (by simp at hf ⊢; omega)
    refine ⟨fun b q1 q2 t ht => ?_, srt_cons.mpr ⟨fun s hs => i1 x.1 h1 (fun t h => by cases h) s hs, i2⟩, fun c => ?_, fun t ht => ?_⟩
    · rcases List.mem_cons.mp ht with rfl | ht
      · exact q1 x List.mem_cons_self
      · exact i1 b (fun s hs => q1 s (List.mem_cons_of_mem _ hs)) q2 t ht
    · rw [co, co, i3]
      simp only [co, Int.mul_zero]
      split <;> omega
    · rcases List.mem_cons.mp ht with rfl | ht
      · exact Or.inl ⟨x, List.mem_cons_self, rfl⟩
      · rcases i4 t ht with ⟨s, hs, e⟩ | ⟨s, hs, e⟩
        · exact Or.inl ⟨s, List.mem_cons_of_mem _ hs, e⟩
        · cases hs
  | f + 1, [], y :: Y, hX, hY, hf => by
    rw [tstr, if_neg (by simp)]
    show (∀ b, _ → _ → ∀ t ∈ (y.1, 0 + sg * y.2) :: tstr sg f [] Y, t.1 < b) ∧ Srt ((y.1, 0 + sg * y.2) :: tstr sg f [] Y) ∧ (∀ c, co ((y.1, 0 + sg * y.2) :: tstr sg f [] Y) c = _) ∧ ∀ t ∈ (y.1, 0 + sg * y.2) :: tstr sg f [] Y, _
    obtain ⟨h1, h2⟩ := srt_cons.mp hY
    obtain ⟨i1, i2, i3, i4⟩ := tstr_ok sg f [] Y hX h2 (by simp at hf ⊢; omega)
    refine ⟨fun b q1 q2 t ht => ?_, srt_cons.mpr ⟨fun s hs => i1 y.1 (fun t h => by cases h) h1 s hs, i2⟩, fun c => ?_, fun t ht => ?_⟩
    · rcases List.mem_cons.mp ht with rfl | ht
      · exact q2 y List.mem_cons_self
      · exact i1 b q1 (fun s hs => q2 s (List.mem_cons_of_mem _ hs)) t ht
    · rw [co, co, i3]
      show (if y.1 = c then 0 + sg * y.2 else 0) + (co [] c + sg * co Y c) = co [] c + sg * ((if y.1 = c then y.2 else 0) + co Y c)
      split <;> simp [co, Int.mul_add]
    · rcases List.mem_cons.mp ht with rfl | ht
      · exact Or.inr ⟨y, List.mem_cons_self, rfl⟩
      · rcases i4 t ht with ⟨s, hs, e⟩ | ⟨s, hs, e⟩
        · cases hs
        · exact Or.inr ⟨s, List.mem_cons_of_mem _ hs, e⟩
  | f + 1, x :: X, y :: Y, hX, hY, hf => by
    rw [tstr, if_neg (by simp)]
    obtain ⟨h1, h2⟩ := srt_cons.mp hX
    obtain ⟨h3, h4⟩ := srt_cons.mp hY
    by_cases e : x.1 = y.1
    · have hn : nxt sg (x :: X) (y :: Y) = ((x.1, 0 + x.2 + sg * y.2), X, Y) := by simp only [nxt]; rw [if_pos e]
      rw [hn]
      obtain ⟨i1, i2, i3, i4⟩ := tstr_ok sg f X Y h2 h4 (by simp at hf ⊢; omega)
      refine ⟨fun b q1 q2 t ht => ?_, srt_cons.mpr ⟨fun s hs => i1 x.1 h1 (fun t ht => by rw [e]; exact h3 t ht) s hs, i2⟩, fun c => ?_, fun t ht => ?_⟩
      · rcases List.mem_cons.mp ht with rfl | ht
        · exact q1 x List.mem_cons_self
        · exact i1 b (fun s hs => q1 s (List.mem_cons_of_mem _ hs)) (fun s hs => q2 s (List.mem_cons_of_mem _ hs)) t ht
      · rw [co, co, co, i3, ← e]
        show (if x.1 = c then 0 + x.2 + sg * y.2 else 0) + (co X c + sg * co Y c) = (if x.1 = c then x.2 else 0) + co X c + sg * ((if x.1 = c then y.2 else 0) + co Y c)
        split
        · rw [Int.mul_add]; omega
        · simp
      · rcases List.mem_cons.mp ht with rfl | ht
        · exact Or.inl ⟨x, List.mem_cons_self, rfl⟩
        · rcases i4 t ht with ⟨s, hs, e⟩ | ⟨s, hs, e⟩
          · exact Or.inl ⟨s, List.mem_cons_of_mem _ hs, e⟩
          · exact Or.inr ⟨s, List.mem_cons_of_mem _ hs, e⟩
    · by_cases g : y.1 < x.1
      · have hn : nxt sg (x :: X) (y :: Y) = ((x.1, 0 + x.2), X, y :: Y) := by simp only [nxt]; rw [if_neg e, if_pos g]
        rw [hn]
        obtain ⟨i1, i2, i3, i4⟩ := tstr_ok sg f X (y :: Y) h2 hY (by simp at hf ⊢; omega)
        refine ⟨fun b q1 q2 t ht => ?_, srt_cons.mpr ⟨fun s hs => i1 x.1 h1 (fun t ht => by
          rcases List.mem_cons.mp ht with rfl | ht
          · exact g
          · exact Nat.lt_trans (h3 t ht) g) s hs, i2⟩, fun c => ?_, fun t ht => ?_⟩
        · rcases List.mem_cons.mp ht with rfl | ht
          · exact q1 x List.mem_cons_self
          · exact i1 b (fun s hs => q1 s (List.mem_cons_of_mem _ hs)) q2 t ht
        · rw [co, i3]
          show (if x.1 = c then 0 + x.2 else 0) + (co X c + sg * co (y :: Y) c) = ((if x.1 = c then x.2 else 0) + co X c) + sg * co (y :: Y) c
          split <;> omega
        · rcases List.mem_cons.mp ht with rfl | ht
          · exact Or.inl ⟨x, List.mem_cons_self, rfl⟩
          · rcases i4 t ht with ⟨s, hs, e⟩ | ⟨s, hs, e⟩
            · exact Or.inl ⟨s, List.mem_cons_of_mem _ hs, e⟩
            · exact Or.inr ⟨s, hs, e⟩
      · have hn : nxt sg (x :: X) (y :: Y) = ((y.1, 0 + sg * y.2), x :: X, Y) := by simp only [nxt]; rw [if_neg e, if_neg g]
        rw [hn]
        obtain ⟨i1, i2, i3, i4⟩ := tstr_ok sg f (x :: X) Y hX h4 (by simp at hf ⊢; omega)
        refine ⟨fun b q1 q2 t ht => ?_, srt_cons.mpr ⟨fun s hs => i1 y.1 (fun t ht => by
          rcases List.mem_cons.mp ht with rfl | ht
          · omega
          · have := h1 t ht
            omega) h3 s hs, i2⟩, fun c => ?_, fun t ht => ?_⟩
        · rcases List.mem_cons.mp ht with rfl | ht
          · exact q2 y List.mem_cons_self
          · exact i1 b q1 (fun s hs => q2 s (List.mem_cons_of_mem _ hs)) t ht
        · rw [co, i3]
          show (if y.1 = c then 0 + sg * y.2 else 0) + (co (x :: X) c + sg * co Y c) = co (x :: X) c + sg * ((if y.1 = c then y.2 else 0) + co Y c)
          split
          · rw [Int.mul_add]; omega
          · simp
        · rcases List.mem_cons.mp ht with rfl | ht
          · exact Or.inr ⟨y, List.mem_cons_self, rfl⟩
          · rcases i4 t ht with ⟨s, hs, e⟩ | ⟨s, hs, e⟩
            · exact Or.inl ⟨s, hs, e⟩
            · exact Or.inr ⟨s, List.mem_cons_of_mem _ hs, e⟩
