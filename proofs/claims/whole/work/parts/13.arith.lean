/-! ===== numbers ===== -/
def iI (z : Int) : Int32 := Int32.ofInt z
def lI (z : Int) : Int64 := Int64.ofInt z
theorem nI_iI (n : Nat) : nI n = iI (n : Int) := rfl
theorem lN_lI (n : Nat) : lN n = lI (n : Int) := rfl
theorem nI_inc (a k : Nat) : nI a + Int32.ofInt (k : Int) = nI (a + k) := nI_add a k
theorem nI_dec {a : Nat} (h : 0 < a) : nI a + Int32.ofInt (-1) = nI (a - 1) := by
  obtain ⟨b, rfl⟩ : ∃ b, a = b + 1 := ⟨a - 1, by omega⟩
  exact pk_m1 b
theorem lI_add (a b : Int) : lI a + lI b = lI (a + b) := (Int64.ofInt_add a b).symm
theorem lI_sub (a b : Int) : lI a - lI b = lI (a - b) := (Int64.ofInt_sub a b).symm
theorem lI_mul (a b : Int) : lI a * lI b = lI (a * b) := (Int64.ofInt_mul a b).symm
theorem iI_add (a b : Int) : iI a + iI b = iI (a + b) := (Int32.ofInt_add a b).symm
theorem lI_toInt {z : Int} (h : -9223372036854775808 ≤ z ∧ z < 9223372036854775808) : (lI z).toInt = z := Int64.toInt_ofInt_of_le (by simpa using h.1) (by simpa using h.2)
theorem iI_toInt {z : Int} (h : -2147483648 ≤ z ∧ z < 2147483648) : (iI z).toInt = z := Int32.toInt_ofInt_of_le (by simpa using h.1) (by simpa using h.2)
theorem lI_lt {a b : Int} (ha : -9223372036854775808 ≤ a ∧ a < 9223372036854775808) (hb : -9223372036854775808 ≤ b ∧ b < 9223372036854775808) : lI a < lI b ↔ a < b := by
  rw [Int64.lt_iff_toInt_lt, lI_toInt ha, lI_toInt hb]
theorem lI_le {a b : Int} (ha : -9223372036854775808 ≤ a ∧ a < 9223372036854775808) (hb : -9223372036854775808 ≤ b ∧ b < 9223372036854775808) : lI a ≤ lI b ↔ a ≤ b := by
  rw [Int64.le_iff_toInt_le, lI_toInt ha, lI_toInt hb]
theorem lI_eq {a b : Int} (ha : -9223372036854775808 ≤ a ∧ a < 9223372036854775808) (hb : -9223372036854775808 ≤ b ∧ b < 9223372036854775808) : lI a = lI b ↔ a = b := by
  rw [← Int64.toInt_inj, lI_toInt ha, lI_toInt hb]
theorem iI_lt {a b : Int} (ha : -2147483648 ≤ a ∧ a < 2147483648) (hb : -2147483648 ≤ b ∧ b < 2147483648) : iI a < iI b ↔ a < b := by
  rw [Int32.lt_iff_toInt_lt, iI_toInt ha, iI_toInt hb]
theorem iI_le {a b : Int} (ha : -2147483648 ≤ a ∧ a < 2147483648) (hb : -2147483648 ≤ b ∧ b < 2147483648) : iI a ≤ iI b ↔ a ≤ b := by
  rw [Int32.le_iff_toInt_le, iI_toInt ha, iI_toInt hb]
theorem iI_eq {a b : Int} (ha : -2147483648 ≤ a ∧ a < 2147483648) (hb : -2147483648 ≤ b ∧ b < 2147483648) : iI a = iI b ↔ a = b := by
  rw [← Int32.toInt_inj, iI_toInt ha, iI_toInt hb]
theorem iI_l {z : Int} (h : -2147483648 ≤ z ∧ z < 2147483648) : (iI z).toInt64 = lI z := by
  rw [← Int64.toInt_inj, Int32.toInt_toInt64, iI_toInt h, lI_toInt (by omega)]
theorem lI_i (z : Int) : (lI z).toInt32 = iI z := Int64.toInt32_ofInt
theorem nI_lI {a : Nat} (h : a < 2147483648) : (nI a).toInt64 = lI (a : Int) := by
  rw [nI_iI]; exact iI_l (by omega)
theorem iI_of (x : Int32) : ∃ z : Int, -2147483648 ≤ z ∧ z < 2147483648 ∧ x = iI z := by
  refine ⟨x.toInt, by have := x.le_toInt; simpa using this, by have := x.toInt_lt; simpa using this, ?_⟩
  exact (Int32.ofInt_toInt x).symm
/-! ===== lists of terms ===== -/
abbrev PL : Type := List (Nat × Int)
def cd (L : PL) (j : Nat) : Nat := (L.getD j (0, 0)).1
def cf (L : PL) (j : Nat) : Int := (L.getD j (0, 0)).2
theorem cd_lt {L : PL} {x : Nat × Int} {j : Nat} (h : j < L.length) : cd (L ++ [x]) j = cd L j := by
  simp [cd, List.getD_eq_getElem?_getD, List.getElem?_append_left h]
theorem cf_lt {L : PL} {x : Nat × Int} {j : Nat} (h : j < L.length) : cf (L ++ [x]) j = cf L j := by
  simp [cf, List.getD_eq_getElem?_getD, List.getElem?_append_left h]
theorem cd_last {L : PL} {x : Nat × Int} : cd (L ++ [x]) L.length = x.1 := by
  simp [cd, List.getD_eq_getElem?_getD]
theorem cf_last {L : PL} {x : Nat × Int} : cf (L ++ [x]) L.length = x.2 := by
  simp [cf, List.getD_eq_getElem?_getD]
theorem cd_mem {L : PL} {j : Nat} (h : j < L.length) : (cd L j, cf L j) ∈ L := by
  have : L.getD j (0, 0) = L[j] := by simp [List.getD_eq_getElem?_getD, h]
  unfold cd cf
  rw [this]
  exact List.getElem_mem h
theorem drop_cd {L : PL} {j : Nat} (h : j < L.length) : L.drop j = (cd L j, cf L j) :: L.drop (j + 1) := by
  have : L.getD j (0, 0) = L[j] := by simp [List.getD_eq_getElem?_getD, h]
  unfold cd cf
  rw [this]
  exact List.drop_eq_getElem_cons h
theorem take_cd {L : PL} {j : Nat} (h : j < L.length) : L.take (j + 1) = L.take j ++ [(cd L j, cf L j)] := by
  have : L.getD j (0, 0) = L[j] := by simp [List.getD_eq_getElem?_getD, h]
  unfold cd cf
  rw [this]
  exact List.take_succ_eq_append_getElem h
/-- one term more; none: too big -/
def app (cap : Nat) (L : PL) (c : Nat) (k : Int) : Option PL := if k = 0 then some L else if 99999999 < k ∨ k < -99999999 ∨ cap ≤ L.length then none else some (L ++ [(c, k)])
/-- a Poly at a: its rows lie behind it -/
def PolyC (G : Gx) (w : Wm) (a cap : Nat) (L : PL) (tk : Int32) (tp : Nat → Int32) : Prop :=
  ∃ (f : Nat → Int64) (g : Nat → Int32), w a = some (eO 1 [.ref (a + 1), .ref (a + 2), .int (nI L.length), .ref (a + 3), .int tk]) ∧ w (a + 1) = some (eJ G cap f) ∧ w (a + 2) = some (eI G cap g) ∧ w (a + 3) = some (eI G 16 tp) ∧ L.length ≤ cap ∧ cap ≤ 60 ∧ (∀ j, j < L.length → f j = lN (cd L j)) ∧ (∀ j, j < L.length → g j = iI (cf L j)) ∧ (tk = 0 ∨ tk = 1)
theorem PolyC.kept {G : Gx} {w w' : Wm} {a cap : Nat} {L : PL} {tk : Int32} {tp : Nat → Int32} (h : PolyC G w a cap L tk tp) (hf : ∀ b, a ≤ b → b < a + 4 → w' b = w b) : PolyC G w' a cap L tk tp := by
  obtain ⟨f, g, h0, h1, h2, h3, h4⟩ := h
  exact ⟨f, g, (hf a (by omega) (by omega)).trans h0, (hf _ (by omega) (by omega)).trans h1, (hf _ (by omega) (by omega)).trans h2, (hf _ (by omega) (by omega)).trans h3, h4⟩
