/-! ===== what the calls ask for, over lists of terms ===== -/
/-- registers, hypotheses, how many, the parts' numbers, their factors, how many parts -/
abbrev St : Type := (Nat → PL) × (Nat → PL) × Nat × (Nat → Nat) × (Nat → Int32) × Nat
def ri (x : Int32) : Option Nat := if 0 ≤ x.toInt ∧ x.toInt < 16 then some x.toInt.toNat else none
theorem ri_some {j : Nat} (h : j < 16) : ri (nI j) = some j := by
  rw [ri, nI_toInt (by omega), if_pos (by omega)]; rfl
theorem ri_none {x : Int32} (h : ¬ ∃ j, j < 16 ∧ x = nI j) : ri x = none := by
  rw [ri, if_neg]
  intro q
  refine h ⟨x.toInt.toNat, by omega, ?_⟩
  rw [← Int32.toInt_inj, nI_toInt (by omega)]
  omega
def sConst (σ : St) (x v : Int32) : Int32 × St := match ri x with
  | none => (-1, σ)
  | some j => if 99999999 < v.toInt ∨ v.toInt < -99999999 then (-2, σ) else (nI (one 0 v.toInt).length, (va_up σ.1 j (one 0 v.toInt), σ.2))
def scode (t : Nat) : Nat := 10000000000000000 + 10 ^ (15 - t)
def sSym (σ : St) (x v : Int32) : Int32 × St := match ri x, ri v with
  | some j, some t => (nI 1, (va_up σ.1 j (one (scode t) 1), σ.2))
  | _, _ => (-1, σ)
def sComb (sg : Int) (σ : St) (x a b : Int32) : Int32 × St := match ri x, ri a, ri b with
  | some j, some p, some q => (match padd sg (σ.1 p) (σ.1 q) with
    | none => (-2, σ)
    | some M => (nI M.length, (va_up σ.1 j M, σ.2)))
  | _, _, _ => (-1, σ)
def sTimes (σ : St) (x a b : Int32) : Int32 × St := match ri x, ri a, ri b with
  | some j, some p, some q => (match pmul (σ.1 p) (σ.1 q) with
    | none => (-2, σ)
    | some M => (nI M.length, (va_up σ.1 j M, σ.2)))
  | _, _, _ => (-1, σ)
/-- a poly times another, k times -/
def pwr (F : PL) : Nat → PL → Option PL
  | 0, A => some A
  | k + 1, A => (pmul A F).bind (pwr F k)
/-- the last m symbols of a term worked -/
def wt (R : Nat → PL) (c : Nat) : Nat → PL → Option PL
  | 0, A => some A
  | m + 1, A => (pwr (R (15 - m)) (dig c (15 - m)) A).bind (wt R c m)
def pterm (R : Nat → PL) (t : Nat × Int) : Option PL := wt R t.1 16 (one 0 t.2)
def pput (R : Nat → PL) : PL → PL → Option PL
  | [], acc => some acc
  | t :: L, acc => (pterm R t).bind (fun A => (padd 1 acc A).bind (pput R L))
def sPut (σ : St) (x a : Int32) : Int32 × St := match ri x, ri a with
  | some j, some p => (match pput σ.1 (σ.1 p) [] with
    | none => (-2, σ)
    | some M => (nI M.length, (va_up σ.1 j M, σ.2)))
  | _, _ => (-1, σ)
def sSize (σ : St) (x : Int32) : Int32 := match ri x with
  | none => -1
  | some j => nI (σ.1 j).length
def sTerm (σ : St) (x k wh : Int32) : Int32 := match ri x with
  | none => 0
  | some j => if 0 ≤ k.toInt ∧ k.toInt < (σ.1 j).length then (if wh = -1 then iI (cf (σ.1 j) k.toInt.toNat) else match ri wh with
    | none => 0
    | some t => nI (dig (cd (σ.1 j) k.toInt.toNat) t)) else 0
def sSame (σ : St) (x y : Int32) : Int32 := match ri x, ri y with
  | some p, some q => if σ.1 p = σ.1 q then 1 else 0
  | _, _ => -1
def sValue (σ : St) (x v : Int32) : Int64 := match ri x with
  | none => 0
  | some j => hvL v.toInt64 (σ.1 j) 0 (hv0 (σ.1 j))
def sHyp (σ : St) (x : Int32) : Int32 × St := match ri x with
  | none => (-1, σ)
  | some j => if 40 ≤ σ.2.2.1 then (-1, σ) else (nI σ.2.2.1, (σ.1, va_up σ.2.1 σ.2.2.1 (σ.1 j), σ.2.2.1 + 1, σ.2.2.2))
def sKeep (σ : St) (x : Int32) : Int32 × St := if x.toInt < 0 ∨ (σ.2.2.1 : Int) < x.toInt then (-1, σ) else (x, (σ.1, σ.2.1, x.toInt.toNat, σ.2.2.2))
def sPart (σ : St) (x a b c d : Int32) : Int32 × St :=
  if x.toInt < 0 ∨ 99999999 < x.toInt ∨ 20 ≤ σ.2.2.2.2.2 ∨ a < -1 ∨ b < -1 ∨ c < -1 ∨ d < -1 then (-1, σ)
  else (nI (σ.2.2.2.2.2 + 1), (σ.1, σ.2.1, σ.2.2.1, va_up σ.2.2.2.1 σ.2.2.2.2.2 x.toInt.toNat, upd (upd (upd (upd σ.2.2.2.2.1 (4 * σ.2.2.2.2.2) a) (4 * σ.2.2.2.2.2 + 1) b) (4 * σ.2.2.2.2.2 + 2) c) (4 * σ.2.2.2.2.2 + 3) d, σ.2.2.2.2.2 + 1))
/-- factors f .. of a part worked, k of them -/
def wpi (Hh : Nat → PL) (hc : Nat) (pf : Nat → Int32) (f : Nat) : Nat → PL → Option PL
  | 0, A => some A
  | k + 1, A => (if 0 ≤ (pf f).toInt ∧ (pf f).toInt < hc then pmul A (Hh (pf f).toInt.toNat) else some A).bind (wpi Hh hc pf (f + 1) k)
def psum (Hh : Nat → PL) (hc : Nat) (pn : Nat → Nat) (pf : Nat → Int32) (p : Nat) : Nat → PL → Option PL
  | 0, acc => some acc
  | k + 1, acc => (wpi Hh hc pf (4 * p) 4 (one 0 (pn p))).bind (fun A => (padd 1 acc A).bind (psum Hh hc pn pf (p + 1) k))
def thereF (hc : Nat) (pf : Nat → Int32) (k : Nat) : Bool := (List.range k).all (fun f => decide ((pf f).toInt < hc))
def showA (σ : St) (L : PL) (k : Int) : Int32 := if thereF σ.2.2.1 σ.2.2.2.2.1 (4 * σ.2.2.2.2.2) = true then (match pmul (one 0 k) L with
  | none => -2
  | some W0 => match psum σ.2.1 σ.2.2.1 σ.2.2.2.1 σ.2.2.2.2.1 0 σ.2.2.2.2.2 [] with
    | none => -2
    | some A => if A = W0 then 1 else 0) else 0
def sShow (σ : St) (x k : Int32) : Int32 × St := match ri x with
  | none => (-1, σ)
  | some j => if k.toInt < 1 ∨ 99999999 < k.toInt then (-1, σ) else (showA σ (σ.1 j) k.toInt, (σ.1, σ.2.1, σ.2.2.1, σ.2.2.2.1, σ.2.2.2.2.1, 0))
def sCount (σ : St) (x : Int32) : Int32 := if x = 0 then nI σ.2.2.1 else if x = 1 then nI σ.2.2.2.2.2 else -1
/-! ===== the desk ===== -/
def isP (D n a : Nat) : Prop := a = D + 1 ∨ (D + 36 ≤ a ∧ (a - D) % 4 = 0 ∧ a + 4 ≤ n)
def PoolOK (G : Gx) (w : Wm) (n D : Nat) (pool : Nat → Nat × PL) : Prop := ∀ a, isP D n a → PolyAt G w a (pool a).1 (pool a).2 ∧ okP (pool a).2
theorem PoolOK.kept {G : Gx} {w w' : Wm} {n D : Nat} {pool : Nat → Nat × PL} (h : PoolOK G w n D pool) (hf : ∀ b, D + 1 ≤ b → (b < D + 5 ∨ D + 36 ≤ b) → w' b = w b) : PoolOK G w' n D pool := fun a ha => by
  refine ⟨(h a ha).1.kept (fun b h1 h2 => hf b ?_ ?_), (h a ha).2⟩ <;> (unfold isP at ha; omega)
/-- a new Poly is of the pool -/
theorem PoolOK.push {G : Gx} {w w' : Wm} {n D : Nat} {pool : Nat → Nat × PL} {M : PL} (h : PoolOK G w n D pool) (hn : D + 36 ≤ n ∧ (n - D) % 4 = 0) (hM : PolyAt G w' n M.length M) (ok : okP M) (hf : ∀ b, D + 1 ≤ b → (b < D + 5 ∨ D + 36 ≤ b) → b < n → w' b = w b) : PoolOK G w' (n + 4) D (va_up pool n (M.length, M)) := fun a ha => by
  by_cases q : a = n
  · subst q
    rw [va_up_self]
    exact ⟨hM, ok⟩
  · rw [va_up_ne _ _ q]
    have ha' : isP D n a := by
      unfold isP at ha ⊢
      omega
    refine ⟨(h a ha').1.kept (fun b h1 h2 => hf b ?_ ?_ ?_), (h a ha').2⟩ <;> (unfold isP at ha'; omega)
/-- one Poly of the pool was looked at: its tops may be known now -/
theorem PoolOK.after {G : Gx} {w w' : Wm} {n D x : Nat} {pool : Nat → Nat × PL} (h : PoolOK G w n D pool) (hx : isP D n x) (h1 : PolyAt G w' x (pool x).1 (pool x).2) (hf : ∀ b, D + 1 ≤ b → (b < D + 5 ∨ D + 36 ≤ b) → b ≠ x → b ≠ x + 3 → w' b = w b) : PoolOK G w' n D pool := fun a ha => by
  by_cases q : a = x
  · subst q
    exact ⟨h1, (h a ha).2⟩
  · refine ⟨(h a ha).1.kept (fun b g1 g2 => hf b ?_ ?_ ?_ ?_), (h a ha).2⟩ <;> (unfold isP at ha hx; omega)
theorem isP_apart {D n x y : Nat} {pool : Nat → Nat × PL} (hx : isP D n x) (hy : isP D n y) : (x = y ∧ (pool x).1 = (pool y).1 ∧ (pool x).2 = (pool y).2) ∨ x + 4 ≤ y ∨ y + 4 ≤ x := by
  by_cases q : x = y
  · subst q
    exact Or.inl ⟨rfl, rfl, rfl⟩
  · refine Or.inr ?_
    unfold isP at hx hy
    omega
theorem isP_in {D n x : Nat} (hx : isP D n x) : (x = D + 1 ∨ D + 36 ≤ x) := by
  unfold isP at hx; omega
theorem isP_lt {D n x : Nat} (hn : D + 36 ≤ n) (hx : isP D n x) : x + 4 ≤ n := by
  unfold isP at hx; omega
theorem isP_up {D n m x : Nat} (hn : n ≤ m) (hx : isP D n x) : isP D m x := by
  unfold isP at hx ⊢; omega
def BR (D P T Z : Nat) : Prop := (D + 10 ≤ P ∧ P + 4 ≤ D + 22) ∧ (D + 10 ≤ T ∧ T + 4 ≤ D + 22) ∧ (D + 10 ≤ Z ∧ Z + 4 ≤ D + 22) ∧ (P + 4 ≤ T ∨ T + 4 ≤ P) ∧ (P + 4 ≤ Z ∨ Z + 4 ≤ P) ∧ (T + 4 ≤ Z ∨ Z + 4 ≤ T)
def DeskC (G : Gx) (w : Wm) (n D : Nat) (rg hy : Nat → Option Nat) (hc : Nat) (nums facs : Nat → Int32) (pcn P T Z : Nat) (pool : Nat → Nat × PL) : Prop :=
  w D = some (eO 2 [.ref (D + 5), .ref (D + 6), .int (nI hc), .ref (D + 7), .ref (D + 8), .int (nI pcn), .ref (D + 9)]) ∧ w (D + 5) = some (eQ G 16 rg) ∧ w (D + 6) = some (eQ G 40 hy) ∧ w (D + 7) = some (eI G 20 nums) ∧ w (D + 8) = some (eI G 80 facs) ∧ (∃ bg, w (D + 9) = some (eO 0 [.ref P, .ref T, .ref Z, .ref (D + 22), .int bg])) ∧ (∃ mf, w (D + 22) = some (eI G 60 mf)) ∧ PolyR G w P ∧ PolyR G w T ∧ PolyR G w Z ∧ PoolOK G w n D pool
def DeskI (D n : Nat) (rg hy : Nat → Option Nat) (nums facs : Nat → Int32) (P T Z : Nat) (pool : Nat → Nat × PL) (σ : St) : Prop :=
  BR D P T Z ∧ (D + 36 ≤ n ∧ (n - D) % 4 = 0) ∧ σ.2.2.1 ≤ 40 ∧ σ.2.2.2.2.2 ≤ 20 ∧ (∀ i, i < 16 → ∃ a, rg i = some a ∧ isP D n a ∧ (pool a).2 = σ.1 i) ∧ (∀ i, i < σ.2.2.1 → ∃ a, hy i = some a ∧ isP D n a ∧ (pool a).2 = σ.2.1 i) ∧ (∀ i, i < σ.2.2.2.2.2 → nums i = nI (σ.2.2.2.1 i) ∧ σ.2.2.2.1 i ≤ 99999999) ∧ ∀ i, i < 4 * σ.2.2.2.2.2 → facs i = σ.2.2.2.2.1 i
def DeskS (G : Gx) (w : Wm) (n D : Nat) (σ : St) : Prop := ∃ (rg hy : Nat → Option Nat) (nums facs : Nat → Int32) (P T Z : Nat) (pool : Nat → Nat × PL), DeskC G w n D rg hy σ.2.2.1 nums facs σ.2.2.2.2.2 P T Z pool ∧ DeskI D n rg hy nums facs P T Z pool σ
theorem one_ok {c : Nat} {k : Int} (hc : vC c) (hk : -99999999 ≤ k ∧ k ≤ 99999999) : okP (one c k) := by
  unfold one
  split
  · exact okP_nil
  · rename_i h
    refine ⟨srt_cons.mpr ⟨fun s hs => (by cases hs), srt_nil⟩, by show 1 ≤ 60; decide, fun t ht => ?_⟩
    rw [List.mem_singleton.mp ht]
    exact ⟨hc, h, hk⟩
theorem vC_0 : vC 0 := by unfold vC; decide +kernel
theorem vC_s : ∀ t, t < 16 → vC (scode t) := by unfold vC; decide +kernel
