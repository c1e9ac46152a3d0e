/-! ===== my kit: worlds as functions of addresses ===== -/
abbrev Gx : Type := va_G × ClassId × ClassId × ClassId
abbrev Wm : Type := Nat → Option va_E
def eI (G : Gx) (n : Nat) (f : Nat → Int32) : va_E := .inl (G.2.2.1, n, .inl f)
def eJ (G : Gx) (n : Nat) (f : Nat → Int64) : va_E := .inl (G.2.1, n, .inr (.inl f))
def eQ (G : Gx) (n : Nat) (f : Nat → Option Nat) : va_E := .inl (G.2.2.2, n, .inr (.inr (.inr (.inr f))))
def eO (ci : Nat) (fs : List Value) : va_E := .inr (ci, fs)
def tysG (G : Gx) : List (ClassId × FieldType) := [(G.2.1, .long), (G.2.2.1, .int), (G.2.2.2, .object "PolyDesk$Poly")]
def KG (G : Gx) (U : State) : Prop := va_K G.1 vwCl (tysG G) U ∧ (∀ w ∈ nestW, va_Nw w U) ∧ va_AO "PolyDesk$Poly" U
def FA (B : Nat) : Nat → Prop := fun q => B ≤ q
def HW (G : Gx) (B : Nat) (w : Wm) (n : Nat) (H : Heap) : Prop := H.size = n ∧ B ≤ n ∧ ∀ a e, w a = some e → B ≤ a ∧ va_at G.1 vwCl (a, e) H
def HS (G : Gx) (B : Nat) (w : Wm) (n : Nat) (s : State) (H : Heap) (locs : List Loc) : Prop := HW G B w n H ∧ va_S (FA B) s.heap H locs ∧ B ≤ s.heap.size
def isNest : Cond → Bool
  | .fieldLinkNest .. => true
  | .methodLinkNest .. => true
  | _ => false
theorem nestW_is : ∀ w ∈ nestW, isNest w = true := by decide +kernel
theorem isNest_on {w : Cond} (h : isNest w = true) : w.onTables = true := by
  cases w <;> first | rfl | (simp [isNest] at h)
theorem isNest_warm {w : Cond} (h : isNest w = true) {s U : State} (hW : s.WarmedH U.vm) (hZ : va_Nw w s) : va_Nw w U := by
  cases w <;> first | exact va_Nw.warmF hW hZ | exact va_Nw.warmM hW hZ | (simp [isNest] at h)
theorem KG.warm {G : Gx} {s U : State} (hW : s.WarmedH U.vm) (h : KG G s) : KG G U := ⟨va_K.moved hW.alike h.1, fun w hw => isNest_warm (nestW_is w hw) hW (h.2.1 w hw), va_AO.moved hW.alike h.2.2⟩
theorem KG.same {G : Gx} {u U : State} (hvm : u.vm = U.vm) (h : KG G u) : KG G U := ⟨va_K.moved (by rw [hvm]; exact Vm.Alike.refl U.vm) h.1, fun w hw => va_Nw.same (isNest_on (nestW_is w hw)) hvm (h.2.1 w hw), va_AO.moved (by rw [hvm]; exact Vm.Alike.refl U.vm) h.2.2⟩
def Pcx (G : Gx) (B : Nat) (w : Wm) (n : Nat) (av : List Value) : Array Value → State → Prop := va_Pc av (fun U => HW G B w n U.heap ∧ KG G U)
theorem Pcx.blind {G : Gx} {B : Nat} {w : Wm} {n : Nat} {av : List Value} : FrameBlind (Pcx G B w n av) := fun a U g mk h => ⟨h.1, h.2.1, KG.same (u := U) (U := U.calling g mk a) rfl h.2.2⟩
theorem HW.P1 {G : Gx} {B : Nat} {w : Wm} {n : Nat} {H : Heap} (h : HW G B w n H) {a : Nat} {e : va_E} (he : w a = some e) : va_P G.1 vwCl [(a, e)] H := by
  intro k q hk
  match k, hk with
  | 0, hk => cases hk; exact (h.2.2 a e he).2
  | k + 1, hk => simp at hk
theorem D1 {B : Nat} {a : Nat} {e : va_E} (h : B ≤ a) : va_D (FA B) [(a, e)] := by
  refine ⟨fun i j p q hi hj _ => ?_, fun k q hk => ?_⟩
  · match i, hi, j, hj with
    | 0, _, 0, _ => rfl
    | i + 1, hi, _, _ => simp at hi
    | 0, _, j + 1, hj => simp at hj
  · match k, hk with
    | 0, hk => cases hk; exact h
    | k + 1, hk => simp at hk
theorem HW.lt {G : Gx} {B : Nat} {w : Wm} {n : Nat} {H : Heap} (h : HW G B w n H) {a : Nat} {e : va_E} (he : w a = some e) : a < n := by
  have := (h.2.2 a e he).2.lt
  rw [← h.1]; exact this
/-- a world after one cell was written -/
theorem HW.set {G : Gx} {B : Nat} {w : Wm} {n : Nat} {H H1 : Heap} (h : HW G B w n H) {a : Nat} {e0 e : va_E} (he : w a = some e0) (z : H1.size = H.size) (h1 : va_at G.1 vwCl (a, e) H1) (oq : ∀ q : Nat, q ≠ a → H1[q]? = H[q]?) : HW G B (va_up w a (some e)) n H1 := by
  refine ⟨by rw [z]; exact h.1, h.2.1, fun b e' hb => ?_⟩
  by_cases hq : b = a
  · subst hq
    rw [va_up_self] at hb
    cases hb
    exact ⟨(h.2.2 b e0 he).1, h1⟩
  · rw [va_up_ne _ _ hq] at hb
    exact ⟨(h.2.2 b e' hb).1, (h.2.2 b e' hb).2.kept (oq b hq)⟩
/-- a world after one cell was made -/
theorem HW.push {G : Gx} {B : Nat} {w : Wm} {n : Nat} {H H1 : Heap} (h : HW G B w n H) {e : va_E} (z : H1.size = n + 1) (h1 : va_at G.1 vwCl (n, e) H1) (oq : ∀ q : Nat, q < n → H1[q]? = H[q]?) : HW G B (va_up w n (some e)) (n + 1) H1 := by
  refine ⟨z, Nat.le_succ_of_le h.2.1, fun b e' hb => ?_⟩
  by_cases hq : b = n
  · subst hq
    rw [va_up_self] at hb
    cases hb
    exact ⟨h.2.1, h1⟩
  · rw [va_up_ne _ _ hq] at hb
    exact ⟨(h.2.2 b e' hb).1, (h.2.2 b e' hb).2.kept (oq b (h.lt hb))⟩
theorem va_S.grow {A : Nat → Prop} {H0 H H1 : Heap} {locs : List Loc} (h : va_S A H0 H locs) (z : H.size ≤ H1.size) (oq : ∀ q : Nat, q < H.size → H1[q]? = H[q]?) : va_S A H0 H1 locs :=
  ⟨Nat.le_trans h.1 z, fun q h1 h2 => (oq q (Nat.lt_of_lt_of_le h1 h.1)).trans (h.2.1 q h1 h2), h.2.2⟩
def wsM (y : MethodName) (bytes : ByteArray) (maxL : Nat) (ret : Option FieldType) : List Cond := .code y bytes maxL ret :: BW
def Qi (G : Gx) (B : Nat) (post : Int32 → Wm → Nat → Prop) : Array Value → State → Outcome → State → Prop := va_Qi (fun r (u : Wm × Nat) => post r u.1 u.2) (fun u t => HW G B u.1 u.2 t.heap) (FA B)
def Ql (G : Gx) (B : Nat) (post : Int64 → Wm → Nat → Prop) : Array Value → State → Outcome → State → Prop := va_Ql (fun r (u : Wm × Nat) => post r u.1 u.2) (fun u t => HW G B u.1 u.2 t.heap) (FA B)
def Qv (G : Gx) (B : Nat) (post : Wm → Nat → Prop) : Array Value → State → Outcome → State → Prop := va_Qv (fun (u : Wm × Nat) => post u.1 u.2) (fun u t => HW G B u.1 u.2 t.heap) (FA B)
def Qr (G : Gx) (B : Nat) (post : Nat → Wm → Nat → Prop) : Array Value → State → Outcome → State → Prop := va_Qr (fun (_ : Wm × Nat) => True) (fun u a t => post a u.1 u.2 ∧ HW G B u.1 u.2 t.heap) (FA B)
def notMH (y : MethodName) : Prop := y.cls ≠ "java/lang/invoke/MethodHandle" ∧ y.cls ≠ "java/lang/invoke/VarHandle"
def arity (y : MethodName) (na : Nat) : Prop := (parseMethodDescriptor y.desc).map (fun d => d.parameters.length) = some na
/-- what a callee is, the caller aside -/
def CeV (C : String) (y : MethodName) (bytes : ByteArray) (maxL : Nat) (ret : Option FieldType) (na : Nat) : Prop := Cond.code y bytes maxL ret ∈ BW ∧ Cond.instanceMethod y ∈ BW ∧ Cond.selects C y y ∈ BW ∧ Cond.initialized y.cls ∈ BW ∧ notMH y ∧ arity y na
def CeS (y : MethodName) (bytes : ByteArray) (maxL : Nat) (ret : Option FieldType) (na : Nat) : Prop := Cond.code y bytes maxL ret ∈ BW ∧ Cond.static y ∈ BW ∧ Cond.initialized y.cls ∈ BW ∧ notMH y ∧ arity y na
def CeI (y : MethodName) (bytes : ByteArray) (maxL : Nat) (na : Nat) : Prop := Cond.code y bytes maxL none ∈ BW ∧ Cond.instanceMethod y ∈ BW ∧ y.name = "<init>" ∧ Cond.initialized y.cls ∈ BW ∧ notMH y ∧ arity y na
theorem pay_M {y : MethodName} {bytes : ByteArray} {maxL : Nat} {ret : Option FieldType} (hc : Cond.code y bytes maxL ret ∈ BW) {args : Array Value} {s : State} (hts : ∀ w ∈ BW, w.before args s = true) : ∀ w ∈ wsM y bytes maxL ret, ∀ (a' : Array Value) (U : State), s.WarmedH U.vm → w.before a' U = true :=
  pay_in hts (fun w hw => (List.mem_cons.mp hw).elim (fun e => by rw [e]; exact ⟨hc, BW_good _ hc⟩) (fun h => ⟨h, BW_good _ h⟩))
theorem arity.use {y : MethodName} {na : Nat} (h : arity y na) : ∀ sig, parseMethodDescriptor y.desc = some sig → na = sig.parameters.length := by
  intro sig hs
  unfold arity at h
  rw [hs] at h
  exact (Option.some.inj h).symm
section MK
variable {p : Program} {l : Launch} {e : Env} {R : Room} {s : State} {m : MethodId} {args : Array Value} {below : List Frame} {meth : Method} {c : Code} {H : Heap} {locs : List Loc} {cells slots : Nat} {Q : State → Prop}
variable {cc bytes : ByteArray} {nL maxL index na mc ms pc ci n B b N : Nat} {own C host : String} {y : MethodName} {ret : Option FieldType} {rm : Room} {G : Gx} {w : Wm} {As rest st : List Value} {fs : List Value} {ls : Array Slot} {Qc : Array Value → State → Outcome → State → Prop} {T : u_T}
theorem HS.P1 {a : Nat} {x : va_E} (h : HS G B w n s H locs) (he : w a = some x) : va_P G.1 vwCl [(a, x)] H := h.1.P1 he
theorem HS.A (_h : HS G B w n s H locs) : ∀ q, s.heap.size ≤ q → FA B q := fun _ hq => Nat.le_trans _h.2.2 hq
theorem HS.set {a k : Nat} {e0 x : va_E} {H1 : Heap} (h : HS G B w n s H locs) (he : w a = some e0) (z : H1.size = H.size) (h1 : va_at G.1 vwCl (a, x) H1) (oq : ∀ q : Nat, q ≠ a → H1[q]? = H[q]?) : HS G B (va_up w a (some x)) n s H1 (locs ++ [⟨a, k⟩]) :=
  ⟨h.1.set he z h1 oq, h.2.1.put z oq (h.1.2.2 a e0 he).1, h.2.2⟩
theorem HS.push {x : va_E} {H1 : Heap} (h : HS G B w n s H locs) (z : H1.size = n + 1) (h1 : va_at G.1 vwCl (n, x) H1) (oq : ∀ q : Nat, q < n → H1[q]? = H[q]?) : HS G B (va_up w n (some x)) (n + 1) s H1 locs :=
  ⟨h.1.push z h1 oq, h.2.1.grow (by rw [h.1.1, z]; exact Nat.le_succ n) (fun q hq => oq q (by rw [← h.1.1]; exact hq)), h.2.2⟩
/-- calls -/
theorem run_V (S : CallFix p m c cc nL s args BW own) (hK : KG G s) (hH : HS G B w n s H locs) (hM : Met l y (wsM y bytes maxL ret) rm (Pcx G B w n (.ref b :: As)) Qc mc ms (FA B)) (ce : CeV C y bytes maxL ret na) (lk : Cond.methodLink own index y ∈ BW) (hob : w b = some (eO ci fs)) (hci : vwCl[ci]? = some (C, T, N)) (hn : As.length = na) (hl : ls.size = nL) (hst : st = As.reverse ++ .ref b :: rest) (hW8 : (rest.map fun v => v.category).sum ≤ 8) (hdg : decode cc pc = .ok (.invokevirtual index, 3))
    (hR : rm.cells = mc ∧ rm.slots = ms ∧ rm.frames + 1 ≤ R.frames ∧ 8 + (maxL + 11) + rm.locals ≤ R.locals) (hf : cells + mc ≤ R.cells ∧ slots + ms ≤ R.slots) :
    va_Run p l e R s m args below meth c H locs cells slots mc ms (F0 m pc ls st) rest (Qc (Value.ref b :: As).toArray) (FA B) := by
  subst hst
  obtain ⟨hc, hi, hs, hini, hd, ha⟩ := ce
  have hts := S.2.2.2.2
  exact va_runV S hM ⟨⟨hR.1, hR.2.1, hR.2.2.1, hR.2.2.2, pay_M hc hts, List.mem_cons_self, hts _ hc, hts _ hini, hd, ha.use, hts _ lk⟩, hts _ hi, hts _ hs⟩ ⟨Pcx.blind, va_recv hK.1 (hH.P1 hob) hci (q0 := 0) rfl, fun U hU hW => ⟨rfl, by rw [hU]; exact hH.1, hK.warm hW⟩⟩ rfl hn hl rfl (lv_room hW8) hdg hf
theorem run_VN (S : CallFix p m c cc nL s args BW own) (hK : KG G s) (hH : HS G B w n s H locs) (hM : Met l y (wsM y bytes maxL ret) rm (Pcx G B w n (.ref b :: As)) Qc mc ms (FA B)) (ce : CeV C y bytes maxL ret na) (lk : Cond.methodLinkNest own index y host ∈ nestW) (hob : w b = some (eO ci fs)) (hci : vwCl[ci]? = some (C, T, N)) (hn : As.length = na) (hl : ls.size = nL) (hst : st = As.reverse ++ .ref b :: rest) (hW8 : (rest.map fun v => v.category).sum ≤ 8) (hdg : decode cc pc = .ok (.invokevirtual index, 3))
    (hR : rm.cells = mc ∧ rm.slots = ms ∧ rm.frames + 1 ≤ R.frames ∧ 8 + (maxL + 11) + rm.locals ≤ R.locals) (hf : cells + mc ≤ R.cells ∧ slots + ms ≤ R.slots) :
    va_Run p l e R s m args below meth c H locs cells slots mc ms (F0 m pc ls st) rest (Qc (Value.ref b :: As).toArray) (FA B) := by
  subst hst
  obtain ⟨hc, hi, hs, hini, hd, ha⟩ := ce
  have hts := S.2.2.2.2
  exact va_runVN S hM ⟨⟨⟨hR.1, hR.2.1, hR.2.2.1, hR.2.2.2, pay_M hc hts, List.mem_cons_self⟩, hts _ hc, hts _ hini, hd, ha.use, va_Nw.use rfl (hK.2.1 _ lk)⟩, hts _ hi, hts _ hs⟩ ⟨Pcx.blind, va_recv hK.1 (hH.P1 hob) hci (q0 := 0) rfl, fun U hU hW => ⟨rfl, by rw [hU]; exact hH.1, hK.warm hW⟩⟩ rfl hn hl rfl (lv_room hW8) hdg hf
theorem run_S (S : CallFix p m c cc nL s args BW own) (hK : KG G s) (hH : HS G B w n s H locs) (hM : Met l y (wsM y bytes maxL ret) rm (Pcx G B w n As) Qc mc ms (FA B)) (ce : CeS y bytes maxL ret na) (lk : Cond.methodLink own index y ∈ BW) (hn : As.length = na) (hl : ls.size = nL) (hst : st = As.reverse ++ rest) (hW8 : (rest.map fun v => v.category).sum ≤ 8) (hdg : decode cc pc = .ok (.invokestatic index, 3))
    (hR : rm.cells = mc ∧ rm.slots = ms ∧ rm.frames + 1 ≤ R.frames ∧ 8 + (maxL + 11) + rm.locals ≤ R.locals) (hf : cells + mc ≤ R.cells ∧ slots + ms ≤ R.slots) :
    va_Run p l e R s m args below meth c H locs cells slots mc ms (F0 m pc ls st) rest (Qc As.toArray) (FA B) := by
  subst hst
  obtain ⟨hc, hs, hini, hd, ha⟩ := ce
  have hts := S.2.2.2.2
  exact va_runS S hM ⟨⟨hR.1, hR.2.1, hR.2.2.1, hR.2.2.2, pay_M hc hts, List.mem_cons_self, hts _ hc, hts _ hini, hd, ha.use, hts _ lk⟩, hts _ hs⟩ ⟨Pcx.blind, fun U hU hW => ⟨rfl, by rw [hU]; exact hH.1, hK.warm hW⟩⟩ rfl hn hl rfl (lv_room hW8) hdg hf
theorem run_SN (S : CallFix p m c cc nL s args BW own) (hK : KG G s) (hH : HS G B w n s H locs) (hM : Met l y (wsM y bytes maxL ret) rm (Pcx G B w n As) Qc mc ms (FA B)) (ce : CeS y bytes maxL ret na) (lk : Cond.methodLinkNest own index y host ∈ nestW) (hn : As.length = na) (hl : ls.size = nL) (hst : st = As.reverse ++ rest) (hW8 : (rest.map fun v => v.category).sum ≤ 8) (hdg : decode cc pc = .ok (.invokestatic index, 3))
    (hR : rm.cells = mc ∧ rm.slots = ms ∧ rm.frames + 1 ≤ R.frames ∧ 8 + (maxL + 11) + rm.locals ≤ R.locals) (hf : cells + mc ≤ R.cells ∧ slots + ms ≤ R.slots) :
    va_Run p l e R s m args below meth c H locs cells slots mc ms (F0 m pc ls st) rest (Qc As.toArray) (FA B) := by
  subst hst
  obtain ⟨hc, hs, hini, hd, ha⟩ := ce
  have hts := S.2.2.2.2
  exact va_runSN S hM ⟨⟨⟨hR.1, hR.2.1, hR.2.2.1, hR.2.2.2, pay_M hc hts, List.mem_cons_self⟩, hts _ hc, hts _ hini, hd, ha.use, va_Nw.use rfl (hK.2.1 _ lk)⟩, hts _ hs, trivial⟩ ⟨Pcx.blind, fun U hU hW => ⟨rfl, by rw [hU]; exact hH.1, hK.warm hW⟩⟩ rfl hn hl rfl (lv_room hW8) hdg hf
theorem run_I (S : CallFix p m c cc nL s args BW own) (hK : KG G s) (hH : HS G B w n s H locs) (hM : Met l y (wsM y bytes maxL none) rm (Pcx G B w n (.ref b :: As)) Qc mc ms (FA B)) (ce : CeI y bytes maxL na) (lk : Cond.methodLink own index y ∈ BW) (hn : As.length = na) (hl : ls.size = nL) (hst : st = As.reverse ++ .ref b :: rest) (hW8 : (rest.map fun v => v.category).sum ≤ 8) (hdg : decode cc pc = .ok (.invokespecial index, 3))
    (hR : rm.cells = mc ∧ rm.slots = ms ∧ rm.frames + 1 ≤ R.frames ∧ 8 + (maxL + 11) + rm.locals ≤ R.locals) (hf : cells + mc ≤ R.cells ∧ slots + ms ≤ R.slots) :
    va_Run p l e R s m args below meth c H locs cells slots mc ms (F0 m pc ls st) rest (Qc (Value.ref b :: As).toArray) (FA B) := by
  subst hst
  obtain ⟨hc, hi, hnm, hini, hd, ha⟩ := ce
  have hts := S.2.2.2.2
  exact va_runI S hM ⟨⟨hR.1, hR.2.1, hR.2.2.1, hR.2.2.2, pay_M hc hts, List.mem_cons_self, hts _ hc, hts _ hini, hd, ha.use, hts _ lk⟩, hnm, hts _ hi⟩ ⟨Pcx.blind, fun U hU hW => ⟨rfl, by rw [hU]; exact hH.1, hK.warm hW⟩⟩ rfl hn hl rfl (lv_room hW8) hdg hf
theorem run_IN (S : CallFix p m c cc nL s args BW own) (hK : KG G s) (hH : HS G B w n s H locs) (hM : Met l y (wsM y bytes maxL none) rm (Pcx G B w n (.ref b :: As)) Qc mc ms (FA B)) (ce : CeI y bytes maxL na) (lk : Cond.methodLinkNest own index y host ∈ nestW) (hn : As.length = na) (hl : ls.size = nL) (hst : st = As.reverse ++ .ref b :: rest) (hW8 : (rest.map fun v => v.category).sum ≤ 8) (hdg : decode cc pc = .ok (.invokespecial index, 3))
    (hR : rm.cells = mc ∧ rm.slots = ms ∧ rm.frames + 1 ≤ R.frames ∧ 8 + (maxL + 11) + rm.locals ≤ R.locals) (hf : cells + mc ≤ R.cells ∧ slots + ms ≤ R.slots) :
    va_Run p l e R s m args below meth c H locs cells slots mc ms (F0 m pc ls st) rest (Qc (Value.ref b :: As).toArray) (FA B) := by
  subst hst
  obtain ⟨hc, hi, hnm, hini, hd, ha⟩ := ce
  have hts := S.2.2.2.2
  exact va_runIN S hM ⟨⟨⟨hR.1, hR.2.1, hR.2.2.1, hR.2.2.2, pay_M hc hts, List.mem_cons_self⟩, hts _ hc, hts _ hini, hd, ha.use, va_Nw.use rfl (hK.2.1 _ lk)⟩, hnm, hts _ hi⟩ ⟨Pcx.blind, fun U hU hW => ⟨rfl, by rw [hU]; exact hH.1, hK.warm hW⟩⟩ rfl hn hl rfl (lv_room hW8) hdg hf
variable {a : Array Value}
theorem ck_i {post : Int32 → Wm → Nat → Prop} (hr : va_Run p l e R s m args below meth c H locs cells slots mc ms (F0 m pc ls st) rest (Qi G B post a) (FA B)) (hH : HS G B w n s H locs) (kk : ∀ (r : Int32) (w' : Wm) (n' : Nat) (H1 : Heap) (locs1 : List Loc), post r w' n' → HS G B w' n' s H1 locs1 → W p l e R s m args below meth c H1 locs1 (cells + mc) (slots + ms) Q (F0 m (pc + 3) ls (.int r :: rest))) : W p l e R s m args below meth c H locs cells slots Q (F0 m pc ls st) :=
  va_calli hr hH.2.1 (fun _ _ h => h) (fun _ h => h) (fun r u t H1 locs1 ht _ hp hB _ _ hS => kk r u.1 u.2 H1 locs1 hp ⟨by rw [← ht]; exact hB, hS, hH.2.2⟩)
theorem ck_l {post : Int64 → Wm → Nat → Prop} (hr : va_Run p l e R s m args below meth c H locs cells slots mc ms (F0 m pc ls st) rest (Ql G B post a) (FA B)) (hH : HS G B w n s H locs) (kk : ∀ (r : Int64) (w' : Wm) (n' : Nat) (H1 : Heap) (locs1 : List Loc), post r w' n' → HS G B w' n' s H1 locs1 → W p l e R s m args below meth c H1 locs1 (cells + mc) (slots + ms) Q (F0 m (pc + 3) ls (.long r :: rest))) : W p l e R s m args below meth c H locs cells slots Q (F0 m pc ls st) :=
  va_calll hr hH.2.1 (fun _ _ h => h) (fun _ h => h) (fun r u t H1 locs1 ht _ hp hB _ _ hS => kk r u.1 u.2 H1 locs1 hp ⟨by rw [← ht]; exact hB, hS, hH.2.2⟩)
theorem ck_v {post : Wm → Nat → Prop} (hr : va_Run p l e R s m args below meth c H locs cells slots mc ms (F0 m pc ls st) rest (Qv G B post a) (FA B)) (hH : HS G B w n s H locs) (kk : ∀ (w' : Wm) (n' : Nat) (H1 : Heap) (locs1 : List Loc), post w' n' → HS G B w' n' s H1 locs1 → W p l e R s m args below meth c H1 locs1 (cells + mc) (slots + ms) Q (F0 m (pc + 3) ls rest)) : W p l e R s m args below meth c H locs cells slots Q (F0 m pc ls st) :=
  va_callv hr hH.2.1 (fun _ _ h => h) (fun _ h => h) (fun u t H1 locs1 ht _ hp hB _ _ hS => kk u.1 u.2 H1 locs1 hp ⟨by rw [← ht]; exact hB, hS, hH.2.2⟩)
theorem ck_r {post : Nat → Wm → Nat → Prop} (hr : va_Run p l e R s m args below meth c H locs cells slots mc ms (F0 m pc ls st) rest (Qr G B post a) (FA B)) (hH : HS G B w n s H locs) (kk : ∀ (r : Nat) (w' : Wm) (n' : Nat) (H1 : Heap) (locs1 : List Loc), post r w' n' → HS G B w' n' s H1 locs1 → W p l e R s m args below meth c H1 locs1 (cells + mc) (slots + ms) Q (F0 m (pc + 3) ls (.ref r :: rest))) : W p l e R s m args below meth c H locs cells slots Q (F0 m pc ls st) :=
  va_callr hr hH.2.1 (fun _ _ h => h) (fun _ h => h) (fun u ra t H1 locs1 ht _ _ hB _ _ hS => kk ra u.1 u.2 H1 locs1 hB.1 ⟨by rw [← ht]; exact hB.2, hS, hH.2.2⟩)
/-- calls that change nothing -/
theorem ck_ip {post : Int32 → Prop} (hr : va_Run p l e R s m args below meth c H locs cells slots mc ms (F0 m pc ls st) rest (Qi G B (fun r w' n' => w' = w ∧ n' = n ∧ post r) a) (FA B)) (hH : HS G B w n s H locs) (kk : ∀ (r : Int32) (H1 : Heap) (locs1 : List Loc), post r → HS G B w n s H1 locs1 → W p l e R s m args below meth c H1 locs1 (cells + mc) (slots + ms) Q (F0 m (pc + 3) ls (.int r :: rest))) : W p l e R s m args below meth c H locs cells slots Q (F0 m pc ls st) :=
  ck_i hr hH (fun r w' n' H1 locs1 hp h1 => kk r H1 locs1 hp.2.2 (by rw [← hp.1, ← hp.2.1]; exact h1))
theorem ck_lp {post : Int64 → Prop} (hr : va_Run p l e R s m args below meth c H locs cells slots mc ms (F0 m pc ls st) rest (Ql G B (fun r w' n' => w' = w ∧ n' = n ∧ post r) a) (FA B)) (hH : HS G B w n s H locs) (kk : ∀ (r : Int64) (H1 : Heap) (locs1 : List Loc), post r → HS G B w n s H1 locs1 → W p l e R s m args below meth c H1 locs1 (cells + mc) (slots + ms) Q (F0 m (pc + 3) ls (.long r :: rest))) : W p l e R s m args below meth c H locs cells slots Q (F0 m pc ls st) :=
  ck_l hr hH (fun r w' n' H1 locs1 hp h1 => kk r H1 locs1 hp.2.2 (by rw [← hp.1, ← hp.2.1]; exact h1))
/-- ends -/
theorem rt_i {post : Int32 → Wm → Nat → Prop} {v : Int32} (S : CallFix p m c cc nL s args BW own) (hr : meth.sig.returnType = some .int) (hlk : meth.locks = false) (hH : HS G B w n s H locs) (hdg : decode cc pc = .ok (.ireturn, 1)) (hp : post v w n) : W p l e R s m args below meth c H locs cells slots (MQ below (Qi G B post) args s cells slots (FA B)) (F0 m pc ls [.int v]) :=
  W.iret S.1 S.2.1 hr (fun t ht _ => ⟨⟨v, (w, n), rfl, hp, by show HW G B w n t.heap; rw [ht]; exact hH.1⟩, hH.2.1.F ht⟩) hH.2.1.2.2 hdg hlk
theorem rt_z {post : Int32 → Wm → Nat → Prop} {v : Int32} (S : CallFix p m c cc nL s args BW own) (hr : meth.sig.returnType = some .boolean) (hlk : meth.locks = false) (hH : HS G B w n s H locs) (hdg : decode cc pc = .ok (.ireturn, 1)) (hv : v = 0 ∨ v = 1) (hp : post v w n) : W p l e R s m args below meth c H locs cells slots (MQ below (Qi G B post) args s cells slots (FA B)) (F0 m pc ls [.int v]) :=
  W.zret S.1 S.2.1 hr (by rcases hv with rfl | rfl <;> rfl) (fun t ht _ => ⟨⟨v, (w, n), rfl, hp, by show HW G B w n t.heap; rw [ht]; exact hH.1⟩, hH.2.1.F ht⟩) hH.2.1.2.2 hdg hlk
theorem rt_l {post : Int64 → Wm → Nat → Prop} {v : Int64} (S : CallFix p m c cc nL s args BW own) (hr : meth.sig.returnType = some .long) (hlk : meth.locks = false) (hH : HS G B w n s H locs) (hdg : decode cc pc = .ok (.lreturn, 1)) (hp : post v w n) : W p l e R s m args below meth c H locs cells slots (MQ below (Ql G B post) args s cells slots (FA B)) (F0 m pc ls [.long v]) :=
  W.lret S.1 S.2.1 hr (fun t ht _ => ⟨⟨v, (w, n), rfl, hp, by show HW G B w n t.heap; rw [ht]; exact hH.1⟩, hH.2.1.F ht⟩) hH.2.1.2.2 hdg hlk
theorem rt_v {post : Wm → Nat → Prop} (S : CallFix p m c cc nL s args BW own) (hr : meth.sig.returnType = none) (hlk : meth.locks = false) (hH : HS G B w n s H locs) (hdg : decode cc pc = .ok (.return_, 1)) (hp : post w n) : W p l e R s m args below meth c H locs cells slots (MQ below (Qv G B post) args s cells slots (FA B)) (F0 m pc ls []) :=
  W.vret S.1 S.2.1 hr (fun t ht _ => ⟨⟨(w, n), rfl, hp, by show HW G B w n t.heap; rw [ht]; exact hH.1⟩, hH.2.1.F ht⟩) hH.2.1.2.2 hdg hlk
theorem rt_r {post : Nat → Wm → Nat → Prop} {v : Nat} {nm : String} (S : CallFix p m c cc nL s args BW own) (hr : meth.sig.returnType = some (.object nm)) (hlk : meth.locks = false) (hH : HS G B w n s H locs) (hdg : decode cc pc = .ok (.areturn, 1)) (hp : post v w n) : W p l e R s m args below meth c H locs cells slots (MQ below (Qr G B post) args s cells slots (FA B)) (F0 m pc ls [.ref v]) :=
  W.aret S.1 S.2.1 hr (Or.inl ⟨_, rfl⟩) (Or.inr ⟨_, rfl⟩) (fun t ht _ => ⟨⟨(w, n), v, rfl, trivial, hp, by show HW G B w n t.heap; rw [ht]; exact hH.1⟩, hH.2.1.F ht⟩) hH.2.1.2.2 hdg hlk
end MK
/-- a method's start -/
theorem en {l : Launch} {y : MethodName} {bytes : ByteArray} {maxL : Nat} {ret : Option FieldType} {rm : Room} {G : Gx} {B : Nat} {w : Wm} {n : Nat} {av : List Value} {Qc : Array Value → State → Outcome → State → Prop} {mc ms : Nat} (hy : plainName y.cls = true) (hav : (lg_sl av).length ≤ maxL)
    (body : ∀ (p : Program) (e : Env) (s : State) (m : MethodId) (args : Array Value) (below : List Frame) (meth : Method) (c : Code), CallFix p m c bytes maxL s args BW y.cls → meth.sig.returnType = ret → meth.locks = false → meth.name = y.name → KG G s → ∀ H : Heap, HS G B w n s H [] → ∀ ls : Array Slot, lv_has ls maxL (lv_args 0 av) → W p l e rm s m args below meth c H [] 0 0 (MQ below Qc args s mc ms (FA B)) (F0 m 0 ls [])) :
    Met l y (wsM y bytes maxL ret) rm (Pcx G B w n av) Qc mc ms (FA B) := by
  refine Met.ofW (cc := bytes) (maxL := maxL) (ret := ret) hy rfl ?_
  intro p e s m args below meth c s₁ Bd hml hv
  obtain ⟨rfl, hW, hK⟩ := hv
  have hts := atoms_spec (ws := wsM y bytes maxL ret) Bd.pre
  have hl := lv_entry av (n := maxL) hav
  rw [lg_entry_eq]
  exact body p e s m _ below meth c ⟨Bd.exec, Bd.bytes, hml, findClass_of_methodNamed Bd.named, fun w hw => hts w (List.mem_cons_of_mem _ hw)⟩ Bd.returns Bd.notSynchronized (name_of_methodNamed Bd.named Bd.method).1 hK s.heap ⟨hW, va_S.rf, by rw [hW.1]; exact hW.2.1⟩ _ hl
