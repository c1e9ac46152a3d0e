
/-! THE CLAIM OUT OF ONE WALK OF THE LAW'S BODY. Your part is whole_start (and what it stands on); all else here is the same for every law, but numbers. -/
def R_law : String := "PolyDeskLaw"
def lw_P (b : Addr) (xs : List Int32) (args : Array Value) (s : State) : Prop := args = #[.ref b] ∧ s.IntsAt b xs ∧ xs.length ≤ 3072 ∧ (Jvm.Cond.and given_1 narrow_1).before args s = true
def lw_Q (_ : Array Value) (s : State) (o : Outcome) (t : State) : Prop := o = .returned (some (.int 1)) ∧ Framed s o t [] 600000 7302250
def lw_Z (below : List Frame) (a : Array Value) (s : State) : State → Prop := fun t => ∃ o, t.status = .running ∧ Ended t below o ∧ lw_Q a s o t
/-- the law's own end, with 1 on the stack, nothing written that was there before, its room as the claim has it -/
theorem lw_ret {p : Program} {l : Launch} {e : Env} {s : State} {m : MethodId} {below : List Frame} {meth : Method} {c : Code} {b : Nat} (hx : p.tables.exec = Jvm.exec) (hb : c.code = code) (hr : meth.sig.returnType = ret) (hlocks : meth.locks = false) {pc : Nat} {H : Heap} {ls : Array Slot} (hdg : decode code pc = .ok (.ireturn, 1)) : W p l e room_1 s m #[Value.ref b] below meth c H [] 600000 7302250 (lw_Z below #[Value.ref b] s) (F0 m pc ls [.int 1]) := by
  intro T hT X
  obtain ⟨fs, hret, hrun, hended, hW, hframe⟩ := X.leave (v := some (.int 1)) (hlocks := hlocks) (fun h => by rw [hr] at h; cases h)
  have hmeth' : T.vm.method? m = some meth := X.method'
  refine ⟨T.setFrames fs, ?_, .returned (some (.int 1)), hrun, hended, rfl, ⟨_, rfl⟩, hW, hframe⟩
  jvm_step X.here [X.here.top, hx, hb, hdg, hmeth', hr, ret, narrow_b1]
  (try refine ⟨rfl, ?_⟩); (try refine ⟨rfl, ?_⟩)
  first | (intro acts; rw [hret _ acts rfl rfl rfl]) | rw [hret _ _ rfl rfl rfl]
  exact Steps.refl _
/-- what holds at the law's entry: the machine, the code, the tables' words (any of lw_tbl by 'hts w (by decide +kernel)'), the script of L ints xs at the cell b, what the Statement gives of the start (any of its parts by flat_of_before) -/
def lw_At (p : Program) (s : State) (m : MethodId) (meth : Method) (c : Code) (b L : Nat) (xs : Nat → Int32) : Prop :=
  p.tables.exec = Jvm.exec ∧ c.code = code ∧ meth.sig.returnType = ret ∧ c.maxLocals = 4 ∧ s.vm.findClass R_law = some m.cls ∧ (∀ w ∈ lw_tbl, w.before #[Value.ref b] s = true) ∧ va_X b L xs s s.heap ∧ b < s.heap.size ∧ meth.locks = false ∧ (Jvm.Cond.and given_1 narrow_1).before #[Value.ref b] s = true

theorem wlp2 {p : Program} {l : Launch} {e : Env} {R : Room} {s : State} {m : MethodId} {args : Array Value} {below : List Frame} {meth : Method} {c : Code} {H : Heap} {locs : List Loc} {cells slots pc : Nat} {Q : State → Prop} {ls : Array Slot} {P : Nat → Nat → Nat → Array Slot → Heap → List Loc → Prop} (step : ∀ (k c0 s0 : Nat) (ls : Array Slot) (H : Heap) (locs : List Loc), P k c0 s0 ls H locs → (∀ (k' c' s' : Nat) (ls' : Array Slot) (H' : Heap) (locs' : List Loc), k' < k → P k' c' s' ls' H' locs' → W p l e R s m args below meth c H' locs' c' s' Q (F0 m pc ls' [])) → W p l e R s m args below meth c H locs c0 s0 Q (F0 m pc ls [])) {k0 : Nat} (h0 : P k0 cells slots ls H locs) : W p l e R s m args below meth c H locs cells slots Q (F0 m pc ls []) := by
  induction k0 using Nat.strongRecOn generalizing ls H locs cells slots with
  | _ k ih => exact step k cells slots ls H locs h0 (fun k' c' s' ls' H' locs' hk hP => ih k' hk hP)
theorem DeskS.kept {G : Gx} {w w' : Wm} {n D : Nat} {σ : St} (h : DeskS G w n D σ) (hf : ∀ b, (b < D + 23 ∨ D + 36 ≤ b) → w' b = w b) : DeskS G w' n D σ := by
  obtain ⟨rg, hy, nums, facs, P, T, Z, pool, ⟨d0, d5, d6, d7, d8, ⟨bg, d9⟩, ⟨mf, dm⟩, hP, hT, hZ, hpl⟩, hi⟩ := h
  have hbr := hi.1
  unfold BR at hbr
  exact ⟨rg, hy, nums, facs, P, T, Z, pool, ⟨(hf _ (by omega)).trans d0, (hf _ (by omega)).trans d5, (hf _ (by omega)).trans d6, (hf _ (by omega)).trans d7, (hf _ (by omega)).trans d8, ⟨bg, (hf _ (by omega)).trans d9⟩, ⟨mf, (hf _ (by omega)).trans dm⟩, hP.kept (fun b h1 h2 => hf b (by omega)), hT.kept (fun b h1 h2 => hf b (by omega)), hZ.kept (fun b h1 h2 => hf b (by omega)), hpl.kept (fun b h1 h2 => hf b (by omega))⟩, hi⟩
theorem DeskS.ob {G : Gx} {w : Wm} {n D : Nat} {σ : St} (h : DeskS G w n D σ) : ∃ fs, w D = some (eO 2 fs) := by
  obtain ⟨rg, hy, nums, facs, P, T, Z, pool, hd, hi⟩ := h
  exact ⟨_, hd.1⟩
theorem ModS.ob {G : Gx} {w : Wm} {M : Nat} {σ : St} (h : ModS G w M σ) : ∃ fs, w M = some (eO 3 fs) := by
  obtain ⟨Sl, cnt, big, ma, gc, gh, gl, fc, fh, fl, nu, f1, f2, f3, f4, m0, h⟩ := h
  exact ⟨_, m0⟩
theorem ModS.kept {G : Gx} {w w' : Wm} {D : Nat} {σ : St} (h : ModS G w (D + 23) σ) (hf : ∀ b, (D + 23 ≤ b ∧ b < D + 36) → w' b = w b) : ModS G w' (D + 23) σ := by
  obtain ⟨Sl, cnt, big, ma, gc, gh, gl, fc, fh, fl, nu, f1, f2, f3, f4, m0, m1, m2, m3, m4, m5, m6, m7, m8, mz9, m10, m11, m12, hsl, hmi⟩ := h
  exact ⟨Sl, cnt, big, ma, gc, gh, gl, fc, fh, fl, nu, f1, f2, f3, f4, (hf _ (by omega)).trans m0, (hf _ (by omega)).trans m1, (hf _ (by omega)).trans m2, (hf _ (by omega)).trans m3, (hf _ (by omega)).trans m4, (hf _ (by omega)).trans m5, (hf _ (by omega)).trans m6, (hf _ (by omega)).trans m7, (hf _ (by omega)).trans m8, (hf _ (by omega)).trans mz9, (hf _ (by omega)).trans m10, (hf _ (by omega)).trans m11, (hf _ (by omega)).trans m12, hsl, hmi⟩
theorem DeskN.kept {G : Gx} {w w' : Wm} {D : Nat} (h : DeskN G w D) (hf : ∀ b, b < D + 23 → w' b = w b) : DeskN G w' D := by
  obtain ⟨rg, hy, nums, facs, bg, mf, d0, d5, d6, d7, d8, d9, dm, h1, h2, h3, hz, hr⟩ := h
  exact ⟨rg, hy, nums, facs, bg, mf, (hf _ (by omega)).trans d0, (hf _ (by omega)).trans d5, (hf _ (by omega)).trans d6, (hf _ (by omega)).trans d7, (hf _ (by omega)).trans d8, (hf _ (by omega)).trans d9, (hf _ (by omega)).trans dm, h1.kept (fun b g1 g2 => hf b (by omega)), h2.kept (fun b g1 g2 => hf b (by omega)), h3.kept (fun b g1 g2 => hf b (by omega)), hz.kept (fun b g1 g2 => hf b (by omega)), hr⟩
theorem arrKG {s : State} {args : Array Value} {ty : FieldType} (h : (Cond.arrayClass ty).before args s = true) : ∃ cA, s.vm.findClass ("[" ++ ty.toString) = some cA ∧ ArrOfT s cA ty := by
  obtain ⟨c, k, comp, h1, h2, h3⟩ := Cond.arrayClass_spec h
  exact ⟨c, h1, fun n z => ⟨fun k h => (by cases h), k, h2, comp, h3⟩⟩
theorem law_c {i L : Nat} (hi : i < 2 ^ 30) (hL : L < 2 ^ 30) (h : ¬ nI L - nI 6 < nI i) : i + 6 ≤ L := by
  rw [Int32.lt_iff_toInt_lt, pk_sub_toInt hL (by decide), nI_toInt (by omega)] at h
  omega
theorem KG_start {s : State} {b : Nat} (hts : ∀ w ∈ lw_tbl, w.before #[Value.ref b] s = true) : ∃ G : Gx, KG G s := by
  have hB : ∀ w ∈ BW, w.before #[Value.ref b] s = true := fun w h => hts w (BW_in w h)
  obtain ⟨c0, i0, k0⟩ := u_known (C := RX0) (T := TX0) (N := 5) (n := 5) hB fwX0 (hB _ mW50)
  obtain ⟨c1, i1, k1⟩ := u_known (C := RX1) (T := TX1) (N := 5) (n := 5) hB fwX1 (hB _ mW15)
  obtain ⟨c2, i2, k2⟩ := u_known (C := RX2) (T := TX2) (N := 7) (n := 7) hB fwX2 (hB _ mW7)
  obtain ⟨c3, i3, k3⟩ := u_known (C := RX3) (T := TX3) (N := 16) (n := 16) hB fwX3 (hB _ mW292)
  obtain ⟨cJ, j1, j2⟩ := arrKG (hB _ mW46)
  obtain ⟨cI, a1, a2⟩ := arrKG (hB _ mW47)
  have hao : va_AO "PolyDesk$Poly" s := va_AO.of (hts _ mAO)
  obtain ⟨comp, cQ, kQ, q1, q2, q3, q4, q5⟩ := Cond.arrayOver_spec hao
  refine ⟨((fun k => if k = 0 then c0 else if k = 1 then c1 else if k = 2 then c2 else c3, fun k => if k = 0 then i0 else if k = 1 then i1 else if k = 2 then i2 else i3), cJ, cI, cQ), ⟨?_, ?_⟩, fun w hw => va_Nw.of (isNest_on (nestW_is w hw)) (hts w (nestW_in w hw)), hao⟩
  · intro k q hq
    match k, hq with
    | 0, hq => cases hq; exact k0
    | 1, hq => cases hq; exact k1
    | 2, hq => cases hq; exact k2
    | 3, hq => cases hq; exact k3
    | k + 4, hq => simp [vwCl] at hq
  · intro k q hq
    match k, hq with
    | 0, hq => cases hq; exact ⟨j2, j1⟩
    | 1, hq => cases hq; exact ⟨a2, a1⟩
    | 2, hq => cases hq; exact ⟨fun n z => ⟨fun k h => (by cases h), kQ, q3, comp, q4⟩, kQ, comp, q3, q4, q1, q5⟩
    | k + 3, hq => simp [tysG] at hq

