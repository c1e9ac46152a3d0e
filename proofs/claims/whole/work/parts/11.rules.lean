/-! ===== rows of an instruction over my worlds ===== -/
section RU
variable {p : Program} {l : Launch} {e : Env} {R : Room} {s : State} {m : MethodId} {args : Array Value} {below : List Frame} {meth : Method} {c : Code} {H : Heap} {locs : List Loc} {cells slots : Nat} {Q : State → Prop}
variable {cc : ByteArray} {nL index pc ci n B N : Nat} {own C host : String} {G : Gx} {w : Wm} {rest : List Value} {fs : List Value} {ls : Array Slot} {T : u_T}
theorem fget {a : Nat} (S : CallFix p m c cc nL s args BW own) (hK : KG G s) (hH : HS G B w n s H locs) (he : w a = some (eO ci fs)) (hci : vwCl[ci]? = some (C, T, N)) (hin : ∀ x ∈ u_ws C T N, x ∈ BW) (k : Nat) (hk : k < N) (lk : Cond.fieldLink own index (T k).1 (T k).2.1 (T k).2.2.1 ∈ BW) {v : Value} (hv : fs[k]? = some v) (hdg : decode cc pc = .ok (.getfield index, 3))
    (kk : W p l e R s m args below meth c H locs cells slots Q (F0 m (pc + 3) ls (v :: rest))) : W p l e R s m args below meth c H locs cells slots Q (F0 m pc ls (.ref a :: rest)) :=
  va_get S.1 S.2.1 S.2.2.2.2 hin S.2.2.2.1 hK.1 (hH.P1 he) 0 rfl hci k hk (S.2.2.2.2 _ lk) (fun _ h => h) hv hdg kk
theorem fgetN {a : Nat} (S : CallFix p m c cc nL s args BW own) (hK : KG G s) (hH : HS G B w n s H locs) (he : w a = some (eO ci fs)) (hci : vwCl[ci]? = some (C, T, N)) (hin : ∀ x ∈ u_ws C T N, x ∈ BW) (k : Nat) (hk : k < N) (lk : Cond.fieldLinkNest own index (T k).1 (T k).2.1 (T k).2.2.1 host ∈ nestW) {v : Value} (hv : fs[k]? = some v) (hdg : decode cc pc = .ok (.getfield index, 3))
    (kk : W p l e R s m args below meth c H locs cells slots Q (F0 m (pc + 3) ls (v :: rest))) : W p l e R s m args below meth c H locs cells slots Q (F0 m pc ls (.ref a :: rest)) :=
  va_getN S.1 S.2.1 S.2.2.2.2 hin S.2.2.2.1 hK.1 (hH.P1 he) 0 rfl hci k hk (va_Nw.use rfl (hK.2.1 _ lk)) (fun _ h => h) hv hdg kk
theorem fput {a : Nat} (S : CallFix p m c cc nL s args BW own) (hK : KG G s) (hH : HS G B w n s H locs) (he : w a = some (eO ci fs)) (hci : vwCl[ci]? = some (C, T, N)) (hin : ∀ x ∈ u_ws C T N, x ∈ BW) (ty0 : Nat → FieldType) (hty : ∀ k, k < N → parseFieldDescriptor (T k).2.2.1 = some (ty0 k)) (hnm : ∀ a, a < N → ∀ b, b < N → a ≠ b → (T a).2.1 ≠ (T b).2.1) (k : Nat) (hk : k < N) (lk : Cond.fieldLink own index (T k).1 (T k).2.1 (T k).2.2.1 ∈ BW) (hfin : (T k).2.2.2 = false) {v : Value} (hn : narrow (ty0 k) v = v) (hfit : fits (ty0 k) v = true) (hl : k < fs.length) {fs' : List Value} (hfs : fs.set k v = fs') (hdg : decode cc pc = .ok (.putfield index, 3))
    (kk : ∀ (w1 : Wm) (H1 : Heap) (locs1 : List Loc), w1 a = some (eO ci fs') → (∀ b, b ≠ a → w1 b = w b) → HS G B w1 n s H1 locs1 → W p l e R s m args below meth c H1 locs1 cells slots Q (F0 m (pc + 3) ls rest)) : W p l e R s m args below meth c H locs cells slots Q (F0 m pc ls (v :: .ref a :: rest)) := by
  subst hfs
  have hts := S.2.2.2.2
  have hap := va_apart (own := own) hts hin ty0 hty hnm hK.1 hci
  obtain ⟨r, h1, cell, q1, q2, q3, q4⟩ := (hH.1.2.2 a _ he).2
  have hr : r = (C, T, N) := Option.some.inj (h1.symm.trans hci)
  subst hr
  obtain ⟨hS, hfc, kC, hkC, hkind⟩ := hK.1.1 ci _ hci
  obtain ⟨cf, kf, fi, f, hi, hsl⟩ := hS k hk
  have hlay := hts _ (hin _ (u_in_lay hk))
  unfold u_lay at hlay
  rw [if_neg (by rw [hfin]; decide)] at hlay
  have hst := (u_facts hfc hkC (u_lays hts hin hk) hi).1
  have h6 := u_store hfc hkC hkind hlay hi (hty k hk) hn hfit
  refine W.putK S.1 S.2.1 (f := f) ⟨S.2.2.2.1, hts _ lk, ⟨_, _, _, hi⟩, hst⟩ (by rw [q2]; exact h6) q1 q3 (by rw [hsl]; exact k2_hasslot (q4 k hk)) rfl rfl hdg fun H' e1 e2 e3 => ?_
  rw [hsl] at e1 ⊢
  exact kk _ H' _ (va_up_self _ _ _) (fun b hb => va_up_ne _ _ hb) (hH.set he e2 ⟨_, hci, t_OB.to (V := updV (vp_V fs) k v) ⟨_, e1, q2, q3, t_set q4 hap hk v⟩ (fun j _ => vp_updV_set hl v j)⟩ e3)
theorem fputN {a : Nat} (S : CallFix p m c cc nL s args BW own) (hK : KG G s) (hH : HS G B w n s H locs) (he : w a = some (eO ci fs)) (hci : vwCl[ci]? = some (C, T, N)) (hin : ∀ x ∈ u_ws C T N, x ∈ BW) (ty0 : Nat → FieldType) (hty : ∀ k, k < N → parseFieldDescriptor (T k).2.2.1 = some (ty0 k)) (hnm : ∀ a, a < N → ∀ b, b < N → a ≠ b → (T a).2.1 ≠ (T b).2.1) (k : Nat) (hk : k < N) (lk : Cond.fieldLinkNest own index (T k).1 (T k).2.1 (T k).2.2.1 host ∈ nestW) (hfin : (T k).2.2.2 = false) {v : Value} (hn : narrow (ty0 k) v = v) (hfit : fits (ty0 k) v = true) (hl : k < fs.length) {fs' : List Value} (hfs : fs.set k v = fs') (hdg : decode cc pc = .ok (.putfield index, 3))
    (kk : ∀ (w1 : Wm) (H1 : Heap) (locs1 : List Loc), w1 a = some (eO ci fs') → (∀ b, b ≠ a → w1 b = w b) → HS G B w1 n s H1 locs1 → W p l e R s m args below meth c H1 locs1 cells slots Q (F0 m (pc + 3) ls rest)) : W p l e R s m args below meth c H locs cells slots Q (F0 m pc ls (v :: .ref a :: rest)) := by
  subst hfs
  have hts := S.2.2.2.2
  have hap := va_apart (own := own) hts hin ty0 hty hnm hK.1 hci
  obtain ⟨r, h1, cell, q1, q2, q3, q4⟩ := (hH.1.2.2 a _ he).2
  have hr : r = (C, T, N) := Option.some.inj (h1.symm.trans hci)
  subst hr
  obtain ⟨hS, hfc, kC, hkC, hkind⟩ := hK.1.1 ci _ hci
  obtain ⟨cf, kf, fi, f, hi, hsl⟩ := hS k hk
  have hlay := hts _ (hin _ (u_in_lay hk))
  unfold u_lay at hlay
  rw [if_neg (by rw [hfin]; decide)] at hlay
  have hst := (u_facts hfc hkC (u_lays hts hin hk) hi).1
  have h6 := u_store hfc hkC hkind hlay hi (hty k hk) hn hfit
  refine va_WputK S.1 S.2.1 (f := f) S.2.2.2.1 (va_Nw.use rfl (hK.2.1 _ lk)) hi hst (by rw [q2]; exact h6) q1 q3 (by rw [hsl]; exact k2_hasslot (q4 k hk)) rfl rfl hdg fun H' e1 e2 e3 => ?_
  rw [hsl] at e1 ⊢
  exact kk _ H' _ (va_up_self _ _ _) (fun b hb => va_up_ne _ _ hb) (hH.set he e2 ⟨_, hci, t_OB.to (V := updV (vp_V fs) k v) ⟨_, e1, q2, q3, t_set q4 hap hk v⟩ (fun j _ => vp_updV_set hl v j)⟩ e3)
theorem fputF {a : Nat} (S : CallFix p m c cc nL s args BW own) (hK : KG G s) (hH : HS G B w n s H locs) (he : w a = some (eO ci fs)) (hci : vwCl[ci]? = some (C, T, N)) (hin : ∀ x ∈ u_ws C T N, x ∈ BW) (ty0 : Nat → FieldType) (hty : ∀ k, k < N → parseFieldDescriptor (T k).2.2.1 = some (ty0 k)) (hnm : ∀ a, a < N → ∀ b, b < N → a ≠ b → (T a).2.1 ≠ (T b).2.1) (k : Nat) (hk : k < N) (lk : Cond.fieldLink own index (T k).1 (T k).2.1 (T k).2.2.1 ∈ BW) (hfin : (T k).2.2.2 = true) (hin2 : meth.name = "<init>") (hdecl : (T k).1 = own) {v : Value} (hn : narrow (ty0 k) v = v) (hfit : fits (ty0 k) v = true) (hl : k < fs.length) {fs' : List Value} (hfs : fs.set k v = fs') (hdg : decode cc pc = .ok (.putfield index, 3))
    (kk : ∀ (w1 : Wm) (H1 : Heap) (locs1 : List Loc), w1 a = some (eO ci fs') → (∀ b, b ≠ a → w1 b = w b) → HS G B w1 n s H1 locs1 → W p l e R s m args below meth c H1 locs1 cells slots Q (F0 m (pc + 3) ls rest)) : W p l e R s m args below meth c H locs cells slots Q (F0 m pc ls (v :: .ref a :: rest)) := by
  subst hfs
  have hts := S.2.2.2.2
  have hown := S.2.2.2.1
  have hap := va_apart (own := own) hts hin ty0 hty hnm hK.1 hci
  obtain ⟨r, h1, cell, q1, q2, q3, q4⟩ := (hH.1.2.2 a _ he).2
  have hr : r = (C, T, N) := Option.some.inj (h1.symm.trans hci)
  subst hr
  obtain ⟨hS, hfc, kC, hkC, hkind⟩ := hK.1.1 ci _ hci
  obtain ⟨cf, kf, fi, f, hi, hsl⟩ := hS k hk
  have hlay := hts _ (hin _ (u_in_lay hk))
  unfold u_lay at hlay
  rw [if_pos hfin] at hlay
  have hst := (u_facts hfc hkC (u_lays hts hin hk) hi).1
  have hcf : m.cls = cf := by
    obtain ⟨_, _, c', _, _, _, -, -, hf', -, -, -, hown2, -⟩ := Cond.laysFinal_spec hlay
    have e1 : c' = cf := by have := hi.symm.trans hf'; simp at this; exact this.1.symm
    rw [hdecl] at hown2
    rw [← e1]; exact Option.some.inj (hown.symm.trans hown2)
  have h6 := u_fits hfc hkC hkind (Or.inr hlay) hi (hty k hk) hn hfit
  refine W.putFinK S.1 S.2.1 hown (hts _ lk) hi hst hcf hin2 (by rw [q2]; exact h6) q1 q3 (by rw [hsl]; exact k2_hasslot (q4 k hk)) rfl rfl hdg fun H' e1 e2 e3 => ?_
  rw [hsl] at e1 ⊢
  exact kk _ H' _ (va_up_self _ _ _) (fun b hb => va_up_ne _ _ hb) (hH.set he e2 ⟨_, hci, t_OB.to (V := updV (vp_V fs) k v) ⟨_, e1, q2, q3, t_set q4 hap hk v⟩ (fun j _ => vp_updV_set hl v j)⟩ e3)
/-- arrays: the place is nI k -/
theorem ald_i {a k : Nat} {f : Nat → Int32} (S : CallFix p m c cc nL s args BW own) (hK : KG G s) (hH : HS G B w n s H locs) (he : w a = some (eI G N f)) (hk : k < N) (hN : N < 2 ^ 31) (hdg : decode cc pc = .ok (.iaload, 1))
    (kk : W p l e R s m args below meth c H locs cells slots Q (F0 m (pc + 1) ls (.int (f k) :: rest))) : W p l e R s m args below meth c H locs cells slots Q (F0 m pc ls (.int (nI k) :: .ref a :: rest)) :=
  va_iald S.1 S.2.1 hK.1 (hH.P1 he) 0 1 rfl rfl (vp_in_nI hk hN) hdg (by rw [nI_clamp (Nat.lt_trans hk hN)]; exact kk)
theorem ald_l {a k : Nat} {f : Nat → Int64} (S : CallFix p m c cc nL s args BW own) (hK : KG G s) (hH : HS G B w n s H locs) (he : w a = some (eJ G N f)) (hk : k < N) (hN : N < 2 ^ 31) (hdg : decode cc pc = .ok (.laload, 1))
    (kk : W p l e R s m args below meth c H locs cells slots Q (F0 m (pc + 1) ls (.long (f k) :: rest))) : W p l e R s m args below meth c H locs cells slots Q (F0 m pc ls (.int (nI k) :: .ref a :: rest)) :=
  va_lald S.1 S.2.1 hK.1 (hH.P1 he) 0 0 rfl rfl (vp_in_nI hk hN) hdg (by rw [nI_clamp (Nat.lt_trans hk hN)]; exact kk)
theorem ald_a {a k v : Nat} {f : Nat → Option Nat} (S : CallFix p m c cc nL s args BW own) (hK : KG G s) (hH : HS G B w n s H locs) (he : w a = some (eQ G N f)) (hk : k < N) (hN : N < 2 ^ 31) (hv : f k = some v) (hdg : decode cc pc = .ok (.aaload, 1))
    (kk : W p l e R s m args below meth c H locs cells slots Q (F0 m (pc + 1) ls (.ref v :: rest))) : W p l e R s m args below meth c H locs cells slots Q (F0 m pc ls (.int (nI k) :: .ref a :: rest)) :=
  va_aldq S.1 S.2.1 hK.1 (hH.P1 he) 0 2 rfl rfl (vp_in_nI hk hN) hdg (by rw [nI_clamp (Nat.lt_trans hk hN), hv]; exact kk)
theorem ast_i {a k : Nat} {f : Nat → Int32} {x : Int32} (S : CallFix p m c cc nL s args BW own) (hK : KG G s) (hH : HS G B w n s H locs) (he : w a = some (eI G N f)) (hk : k < N) (hN : N < 2 ^ 31) (hdg : decode cc pc = .ok (.iastore, 1))
    (kk : ∀ (w1 : Wm) (H1 : Heap) (locs1 : List Loc), w1 a = some (eI G N (upd f k x)) → (∀ b, b ≠ a → w1 b = w b) → HS G B w1 n s H1 locs1 → W p l e R s m args below meth c H1 locs1 cells slots Q (F0 m (pc + 1) ls rest)) : W p l e R s m args below meth c H locs cells slots Q (F0 m pc ls (.int x :: .int (nI k) :: .ref a :: rest)) := by
  have hin := vp_in_nI hk hN
  refine W.iast S.1 S.2.1 (hH.1.2.2 a _ he).2 ((hK.1.2 1 _ rfl).1 N (fun j => .int (f j))) (fun q => by cases q) (by show ¬ (nI k < 0 ∨ (arrV _ _ _).slots.size ≤ _); rw [arrV_size]; exact hin) rfl rfl hdg fun H1 e z oq => ?_
  refine kk _ H1 _ (va_up_self _ _ _) (fun b hb => va_up_ne _ _ hb) (hH.set he z ?_ oq)
  show H1[a]? = some (vp_cell _ _)
  rw [e]
  rw [vp_cell_i, vp_cell_i, arrV_store, nI_clamp (Nat.lt_trans hk hN)]
  congr 2
  funext q
  by_cases hq : q = k
  · subst hq
    simp [updV, upd]
  · simp [updV, upd, hq]
theorem ast_l {a k : Nat} {f : Nat → Int64} {x : Int64} (S : CallFix p m c cc nL s args BW own) (hK : KG G s) (hH : HS G B w n s H locs) (he : w a = some (eJ G N f)) (hk : k < N) (hN : N < 2 ^ 31) (hdg : decode cc pc = .ok (.lastore, 1))
    (kk : ∀ (w1 : Wm) (H1 : Heap) (locs1 : List Loc), w1 a = some (eJ G N (vp_updL f k x)) → (∀ b, b ≠ a → w1 b = w b) → HS G B w1 n s H1 locs1 → W p l e R s m args below meth c H1 locs1 cells slots Q (F0 m (pc + 1) ls rest)) : W p l e R s m args below meth c H locs cells slots Q (F0 m pc ls (.long x :: .int (nI k) :: .ref a :: rest)) := by
  have hin := vp_in_nI hk hN
  refine W.last S.1 S.2.1 (hH.1.2.2 a _ he).2 ((hK.1.2 0 _ rfl).1 N (fun j => .long (f j))) (fun q => by cases q) (by show ¬ (nI k < 0 ∨ (arrV _ _ _).slots.size ≤ _); rw [arrV_size]; exact hin) rfl rfl hdg fun H1 e z oq => ?_
  refine kk _ H1 _ (va_up_self _ _ _) (fun b hb => va_up_ne _ _ hb) (hH.set he z ?_ oq)
  show H1[a]? = some (vp_cell _ _)
  rw [e]
  rw [vp_cell_l, vp_cell_l, arrV_store, nI_clamp (Nat.lt_trans hk hN)]
  congr 2
  funext q
  by_cases hq : q = k
  · subst hq
    simp [updV, vp_updL]
  · simp [updV, vp_updL, hq]
theorem ast_a {a k v : Nat} {f : Nat → Option Nat} {vs : List Value} (S : CallFix p m c cc nL s args BW own) (hK : KG G s) (hH : HS G B w n s H locs) (he : w a = some (eQ G N f)) (hv : w v = some (eO 1 vs)) (hk : k < N) (hN : N < 2 ^ 31) (hdg : decode cc pc = .ok (.aastore, 1))
    (kk : ∀ (w1 : Wm) (H1 : Heap) (locs1 : List Loc), w1 a = some (eQ G N (va_up f k (some v))) → (∀ b, b ≠ a → w1 b = w b) → HS G B w1 n s H1 locs1 → W p l e R s m args below meth c H1 locs1 cells slots Q (F0 m (pc + 1) ls rest)) : W p l e R s m args below meth c H locs cells slots Q (F0 m pc ls (.ref v :: .int (nI k) :: .ref a :: rest)) := by
  have hc := nI_clamp (Nat.lt_trans hk hN)
  have h0 : ¬ nI k < 0 := nI_pos (Nat.lt_trans hk hN)
  obtain ⟨r', hr', cellV, g1, g2, g3, -⟩ := (hH.1.2.2 v _ hv).2
  have hcls := (hK.1.1 1 _ rfl).2
  obtain ⟨kA, comp, k1, k2, k3, -⟩ := (hK.1.2 2 _ rfl).2
  have hcomp : comp = G.1.1 1 := Option.some.inj (k3.symm.trans hcls.1)
  subst hcomp
  obtain ⟨kC, hkC, -⟩ := hcls.2
  refine W.aast S.1 S.2.1 (hH.1.2.2 a _ he).2 (fun q h => by cases h) (fun h => by cases h) k1 k2 rfl hkC ⟨h0, by show _ < (arrV _ _ _).slots.size; rw [arrV_size, hc]; exact hk⟩ g1 (fun q h => by rw [g3] at h; cases h) (by rw [g2]; exact hkC) (by rw [g2]; exact va_assign hcls) rfl rfl hdg fun H1 e z oq => ?_
  refine kk _ H1 _ (va_up_self _ _ _) (fun b hb => va_up_ne _ _ hb) (hH.set he z ?_ oq)
  show H1[a]? = some (vp_cell _ _)
  rw [e]
  rw [vp_cell_q, vp_cell_q, arrV_store, hc]
  congr 2
  funext q
  by_cases hq : q = k
  · subst hq
    simp [updV, va_up, va_rf]
  · simp [updV, va_up, hq]
theorem aln_i {a : Nat} {f : Nat → Int32} (S : CallFix p m c cc nL s args BW own) (hK : KG G s) (hH : HS G B w n s H locs) (he : w a = some (eI G N f)) (hdg : decode cc pc = .ok (.arraylength, 1))
    (kk : W p l e R s m args below meth c H locs cells slots Q (F0 m (pc + 1) ls (.int (nI N) :: rest))) : W p l e R s m args below meth c H locs cells slots Q (F0 m pc ls (.ref a :: rest)) :=
  va_alen S.1 S.2.1 hK.1 (hH.P1 he) 0 1 rfl rfl rfl hdg kk
theorem aln_l {a : Nat} {f : Nat → Int64} (S : CallFix p m c cc nL s args BW own) (hK : KG G s) (hH : HS G B w n s H locs) (he : w a = some (eJ G N f)) (hdg : decode cc pc = .ok (.arraylength, 1))
    (kk : W p l e R s m args below meth c H locs cells slots Q (F0 m (pc + 1) ls (.int (nI N) :: rest))) : W p l e R s m args below meth c H locs cells slots Q (F0 m pc ls (.ref a :: rest)) :=
  va_alen S.1 S.2.1 hK.1 (hH.P1 he) 0 0 rfl rfl rfl hdg kk
theorem nwa_i (S : CallFix p m c cc nL s args BW own) (hK : KG G s) (hH : HS G B w n s H locs) (harr : Cond.arrayClass .int ∈ BW) (hN : N < 2 ^ 24) (hcells : cells + 1 ≤ R.cells) (hslots : slots + N ≤ R.slots) (hdg : decode cc pc = .ok (.newarray .int, 2))
    (kk : ∀ (w1 : Wm) (H1 : Heap), w1 n = some (eI G N (fun _ => 0)) → (∀ b, b ≠ n → w1 b = w b) → HS G B w1 (n + 1) s H1 locs → W p l e R s m args below meth c H1 locs (cells + 1) (slots + N) Q (F0 m (pc + 2) ls (.ref n :: rest))) : W p l e R s m args below meth c H locs cells slots Q (F0 m pc ls (.int (nI N) :: rest)) := by
  have h31 : N < 2 ^ 31 := Nat.lt_trans hN (by decide)
  refine va_newaK (atype := .int) S.1 S.2.1 (S.2.2.2.2 _ harr) rfl hdg rfl (nI_pos h31) (nI_clamp h31) (by show N * 4 ≤ _; omega) hcells hslots hH.1.1 fun H1 cA e1 z1 o1 hAr hNm => ?_
  have hcA : cA = G.2.2.1 := Option.some.inj (hNm.symm.trans (hK.1.2 1 _ rfl).2)
  subst hcA
  exact kk _ H1 (va_up_self _ _ _) (fun b hb => va_up_ne _ _ hb) (hH.push z1 (by show H1[n]? = some (vp_cell _ _); rw [vp_cell_i]; exact e1) o1)
theorem nwa_l (S : CallFix p m c cc nL s args BW own) (hK : KG G s) (hH : HS G B w n s H locs) (harr : Cond.arrayClass .long ∈ BW) (hN : N < 2 ^ 24) (hcells : cells + 1 ≤ R.cells) (hslots : slots + N ≤ R.slots) (hdg : decode cc pc = .ok (.newarray .long, 2))
    (kk : ∀ (w1 : Wm) (H1 : Heap), w1 n = some (eJ G N (fun _ => 0)) → (∀ b, b ≠ n → w1 b = w b) → HS G B w1 (n + 1) s H1 locs → W p l e R s m args below meth c H1 locs (cells + 1) (slots + N) Q (F0 m (pc + 2) ls (.ref n :: rest))) : W p l e R s m args below meth c H locs cells slots Q (F0 m pc ls (.int (nI N) :: rest)) := by
  have h31 : N < 2 ^ 31 := Nat.lt_trans hN (by decide)
  refine va_newaK (atype := .long) S.1 S.2.1 (S.2.2.2.2 _ harr) rfl hdg rfl (nI_pos h31) (nI_clamp h31) (by show N * 8 ≤ _; omega) hcells hslots hH.1.1 fun H1 cA e1 z1 o1 hAr hNm => ?_
  have hcA : cA = G.2.1 := Option.some.inj (hNm.symm.trans (hK.1.2 0 _ rfl).2)
  subst hcA
  exact kk _ H1 (va_up_self _ _ _) (fun b hb => va_up_ne _ _ hb) (hH.push z1 (by show H1[n]? = some (vp_cell _ _); rw [vp_cell_l]; exact e1) o1)
theorem nwa_q (S : CallFix p m c cc nL s args BW own) (hK : KG G s) (hH : HS G B w n s H locs) (lk : Cond.classLink own index "PolyDesk$Poly" ∈ BW) (hN : N < 2 ^ 24) (hcells : cells + 1 ≤ R.cells) (hslots : slots + N ≤ R.slots) (hdg : decode cc pc = .ok (.anewarray index, 3))
    (kk : ∀ (w1 : Wm) (H1 : Heap), w1 n = some (eQ G N (fun _ => none)) → (∀ b, b ≠ n → w1 b = w b) → HS G B w1 (n + 1) s H1 locs → W p l e R s m args below meth c H1 locs (cells + 1) (slots + N) Q (F0 m (pc + 3) ls (.ref n :: rest))) : W p l e R s m args below meth c H locs cells slots Q (F0 m pc ls (.int (nI N) :: rest)) := by
  have h31 : N < 2 ^ 31 := Nat.lt_trans hN (by decide)
  have hc := nI_clamp h31
  refine W.anew S.1 S.2.1 S.2.2.2.1 (S.2.2.2.2 _ lk) (va_AO.use hK.2.2) rfl hdg rfl (nI_pos h31) (by rw [hc]; omega) hcells (by rw [hc]; exact hslots) fun cA kA comp f1 f2 f3 f4 => ?_
  rw [hc]
  generalize hH1 : H.push ({ cls := cA, slots := Array.replicate N .null, vm := .none } : Cell) = H1
  have z1 : H1.size = n + 1 := by rw [← hH1, Array.size_push, hH.1.1]
  have e1 : H1[n]? = some (arrV cA N (fun _ => .null)) := by rw [← hH1, ← hH.1.1, Array.getElem?_push_size, ← arrV_new]
  have o1 : ∀ q : Nat, q < n → H1[q]? = H[q]? := fun q hq => by rw [← hH1, Array.getElem?_push, if_neg (by rw [hH.1.1]; exact Nat.ne_of_lt hq)]
  obtain ⟨-, -, -, -, -, k4⟩ := (hK.1.2 2 _ rfl).2
  have hcA : cA = G.2.2.2 := Option.some.inj (f1.symm.trans k4)
  subst hcA
  have hz : H.size = n := hH.1.1
  rw [hz]
  exact kk _ H1 (va_up_self _ _ _) (fun b hb => va_up_ne _ _ hb) (hH.push z1 (by show H1[n]? = some (vp_cell _ _); rw [vp_cell_q]; exact e1) o1)
theorem nwo (S : CallFix p m c cc nL s args BW own) (hK : KG G s) (hH : HS G B w n s H locs) (hci : vwCl[ci]? = some (C, T, N)) (hin : ∀ x ∈ u_ws C T N, x ∈ BW) (ty : Nat → FieldType) (hty : ∀ k, k < N → parseFieldDescriptor (T k).2.2.1 = some (ty k)) (lk : Cond.classLink own index C ∈ BW) (hinst : Cond.instantiable C N ∈ BW) (hini : Cond.initialized C ∈ BW) (hfs : ∀ j, j < N → defaultValue (ty j) = vp_V fs j) (hcells : cells + 1 ≤ R.cells) (hslots : slots + N ≤ R.slots) (hdg : decode cc pc = .ok (.new index, 3))
    (kk : ∀ (w1 : Wm) (H1 : Heap), w1 n = some (eO ci fs) → (∀ b, b ≠ n → w1 b = w b) → HS G B w1 (n + 1) s H1 locs → W p l e R s m args below meth c H1 locs (cells + 1) (slots + N) Q (F0 m (pc + 3) ls (.ref n :: rest))) : W p l e R s m args below meth c H locs cells slots Q (F0 m pc ls rest) := by
  have hts := S.2.2.2.2
  have hKn := hK.1.1 ci _ hci
  refine W.newcK S.1 S.2.1 S.2.2.2.1 (hts _ lk) (hts _ hinst) (hts _ hini) rfl hdg hcells hslots hKn.2.1 hH.1.1 fun H1 kC hkC e1 z1 o1 => ?_
  exact kk _ H1 (va_up_self _ _ _) (fun b hb => va_up_ne _ _ hb) (hH.push z1 ⟨_, hci, (u_born ty hts hin hKn hkC e1 hty).to hfs⟩ o1)
/-- a loop: the measure k falls -/
theorem wlp {P : Nat → Array Slot → Heap → List Loc → Prop} (step : ∀ (k : Nat) (ls : Array Slot) (H : Heap) (locs : List Loc), P k ls H locs → (∀ (k' : Nat) (ls' : Array Slot) (H' : Heap) (locs' : List Loc), k' < k → P k' ls' H' locs' → W p l e R s m args below meth c H' locs' cells slots Q (F0 m pc ls' [])) → W p l e R s m args below meth c H locs cells slots Q (F0 m pc ls [])) {k0 : Nat} (h0 : P k0 ls H locs) : W p l e R s m args below meth c H locs cells slots Q (F0 m pc ls []) := by
  induction k0 using Nat.strongRecOn generalizing ls H locs with
  | _ k ih => exact step k ls H locs h0 (fun k' ls' H' locs' hk hP => ih k' hk hP)
/-- a place that is come to by several ways -/
theorem wcut {σ : Type} {P : σ → Array Slot → Heap → List Loc → Prop} {st' : σ → List Value} {g : JFrame} (pc' : Nat) (k : ∀ (x : σ) (ls : Array Slot) (H : Heap) (locs : List Loc), P x ls H locs → W p l e R s m args below meth c H locs cells slots Q (F0 m pc' ls (st' x))) (h : (∀ (x : σ) (ls : Array Slot) (H : Heap) (locs : List Loc), P x ls H locs → W p l e R s m args below meth c H locs cells slots Q (F0 m pc' ls (st' x))) → W p l e R s m args below meth c H locs cells slots Q g) : W p l e R s m args below meth c H locs cells slots Q g := h k
/-- branches on counted numbers -/
theorem bn_ge {a b : Nat} {off : Int} {tgt : Nat} (S : CallFix p m c cc nL s args BW own) (hdg : decode cc pc = .ok (.if_icmp .ge off, 3)) (ht : (pc : Int) + off = (tgt : Int)) (hb : a < 2 ^ 31 ∧ b < 2 ^ 31) (k1 : b ≤ a → W p l e R s m args below meth c H locs cells slots Q (F0 m tgt ls rest)) (k2 : a < b → W p l e R s m args below meth c H locs cells slots Q (F0 m (pc + 3) ls rest)) : W p l e R s m args below meth c H locs cells slots Q (F0 m pc ls (.int (nI b) :: .int (nI a) :: rest)) :=
  lv_icmp_ge S.1 S.2.1 hdg ht (fun h => k1 ((nI_leI hb.2 hb.1).mp h)) (fun h => k2 (Nat.lt_of_not_le (fun q => h ((nI_leI hb.2 hb.1).mpr q))))
theorem bn_lt {a b : Nat} {off : Int} {tgt : Nat} (S : CallFix p m c cc nL s args BW own) (hdg : decode cc pc = .ok (.if_icmp .lt off, 3)) (ht : (pc : Int) + off = (tgt : Int)) (hb : a < 2 ^ 31 ∧ b < 2 ^ 31) (k1 : a < b → W p l e R s m args below meth c H locs cells slots Q (F0 m tgt ls rest)) (k2 : b ≤ a → W p l e R s m args below meth c H locs cells slots Q (F0 m (pc + 3) ls rest)) : W p l e R s m args below meth c H locs cells slots Q (F0 m pc ls (.int (nI b) :: .int (nI a) :: rest)) :=
  lv_icmp_lt S.1 S.2.1 hdg ht (fun h => k1 ((nI_ltI hb.1 hb.2).mp h)) (fun h => k2 (Nat.le_of_not_lt (fun q => h ((nI_ltI hb.1 hb.2).mpr q))))
theorem bn_gt {a b : Nat} {off : Int} {tgt : Nat} (S : CallFix p m c cc nL s args BW own) (hdg : decode cc pc = .ok (.if_icmp .gt off, 3)) (ht : (pc : Int) + off = (tgt : Int)) (hb : a < 2 ^ 31 ∧ b < 2 ^ 31) (k1 : b < a → W p l e R s m args below meth c H locs cells slots Q (F0 m tgt ls rest)) (k2 : a ≤ b → W p l e R s m args below meth c H locs cells slots Q (F0 m (pc + 3) ls rest)) : W p l e R s m args below meth c H locs cells slots Q (F0 m pc ls (.int (nI b) :: .int (nI a) :: rest)) :=
  lv_icmp_gt S.1 S.2.1 hdg ht (fun h => k1 ((nI_ltI hb.2 hb.1).mp h)) (fun h => k2 (Nat.le_of_not_lt (fun q => h ((nI_ltI hb.2 hb.1).mpr q))))
theorem bn_le {a b : Nat} {off : Int} {tgt : Nat} (S : CallFix p m c cc nL s args BW own) (hdg : decode cc pc = .ok (.if_icmp .le off, 3)) (ht : (pc : Int) + off = (tgt : Int)) (hb : a < 2 ^ 31 ∧ b < 2 ^ 31) (k1 : a ≤ b → W p l e R s m args below meth c H locs cells slots Q (F0 m tgt ls rest)) (k2 : b < a → W p l e R s m args below meth c H locs cells slots Q (F0 m (pc + 3) ls rest)) : W p l e R s m args below meth c H locs cells slots Q (F0 m pc ls (.int (nI b) :: .int (nI a) :: rest)) :=
  lv_icmp_le S.1 S.2.1 hdg ht (fun h => k1 ((nI_leI hb.1 hb.2).mp h)) (fun h => k2 (Nat.lt_of_not_le (fun q => h ((nI_leI hb.1 hb.2).mpr q))))
theorem bn_eq {a b : Nat} {off : Int} {tgt : Nat} (S : CallFix p m c cc nL s args BW own) (hdg : decode cc pc = .ok (.if_icmp .eq off, 3)) (ht : (pc : Int) + off = (tgt : Int)) (hb : a < 2 ^ 31 ∧ b < 2 ^ 31) (k1 : a = b → W p l e R s m args below meth c H locs cells slots Q (F0 m tgt ls rest)) (k2 : a ≠ b → W p l e R s m args below meth c H locs cells slots Q (F0 m (pc + 3) ls rest)) : W p l e R s m args below meth c H locs cells slots Q (F0 m pc ls (.int (nI b) :: .int (nI a) :: rest)) :=
  lv_icmp_eq S.1 S.2.1 hdg ht (fun h => k1 ((nI_eq hb.1 hb.2).mp h)) (fun h => k2 (fun q => h ((nI_eq hb.1 hb.2).mpr q)))
theorem bn_ne {a b : Nat} {off : Int} {tgt : Nat} (S : CallFix p m c cc nL s args BW own) (hdg : decode cc pc = .ok (.if_icmp .ne off, 3)) (ht : (pc : Int) + off = (tgt : Int)) (hb : a < 2 ^ 31 ∧ b < 2 ^ 31) (k1 : a ≠ b → W p l e R s m args below meth c H locs cells slots Q (F0 m tgt ls rest)) (k2 : a = b → W p l e R s m args below meth c H locs cells slots Q (F0 m (pc + 3) ls rest)) : W p l e R s m args below meth c H locs cells slots Q (F0 m pc ls (.int (nI b) :: .int (nI a) :: rest)) :=
  lv_icmp_ne S.1 S.2.1 hdg ht (fun h => k1 (fun q => h ((nI_eq hb.1 hb.2).mpr q))) (fun h => k2 ((nI_eq hb.1 hb.2).mp h))
/-- lcmp and the branch behind it -/
theorem bl_eq {x y : Int64} {off : Int} {tgt : Nat} (S : CallFix p m c cc nL s args BW own) (d1 : decode cc pc = .ok (.lcmp, 1)) (hdg : decode cc (pc + 1) = .ok (.ifCond .eq off, 3)) (ht : ((pc + 1 : Nat) : Int) + off = (tgt : Int)) (k1 : x = y → W p l e R s m args below meth c H locs cells slots Q (F0 m tgt ls rest)) (k2 : x ≠ y → W p l e R s m args below meth c H locs cells slots Q (F0 m (pc + 1 + 3) ls rest)) : W p l e R s m args below meth c H locs cells slots Q (F0 m pc ls (.long y :: .long x :: rest)) :=
  W.lcmp S.1 S.2.1 d1 (lv_if_eq S.1 S.2.1 hdg ht (fun h => k1 ((lg_cmp_eq x y).mp h)) (fun h => k2 (fun q => h ((lg_cmp_eq x y).mpr q))))
theorem bl_ne {x y : Int64} {off : Int} {tgt : Nat} (S : CallFix p m c cc nL s args BW own) (d1 : decode cc pc = .ok (.lcmp, 1)) (hdg : decode cc (pc + 1) = .ok (.ifCond .ne off, 3)) (ht : ((pc + 1 : Nat) : Int) + off = (tgt : Int)) (k1 : x ≠ y → W p l e R s m args below meth c H locs cells slots Q (F0 m tgt ls rest)) (k2 : x = y → W p l e R s m args below meth c H locs cells slots Q (F0 m (pc + 1 + 3) ls rest)) : W p l e R s m args below meth c H locs cells slots Q (F0 m pc ls (.long y :: .long x :: rest)) :=
  W.lcmp S.1 S.2.1 d1 (lv_if_ne S.1 S.2.1 hdg ht (fun h => k1 (fun q => h ((lg_cmp_eq x y).mpr q))) (fun h => k2 ((lg_cmp_eq x y).mp h)))
theorem bl_lt {x y : Int64} {off : Int} {tgt : Nat} (S : CallFix p m c cc nL s args BW own) (d1 : decode cc pc = .ok (.lcmp, 1)) (hdg : decode cc (pc + 1) = .ok (.ifCond .lt off, 3)) (ht : ((pc + 1 : Nat) : Int) + off = (tgt : Int)) (k1 : x < y → W p l e R s m args below meth c H locs cells slots Q (F0 m tgt ls rest)) (k2 : ¬ x < y → W p l e R s m args below meth c H locs cells slots Q (F0 m (pc + 1 + 3) ls rest)) : W p l e R s m args below meth c H locs cells slots Q (F0 m pc ls (.long y :: .long x :: rest)) :=
  W.lcmp S.1 S.2.1 d1 (lv_if_lt S.1 S.2.1 hdg ht (fun h => k1 ((lg_cmp_lt x y).mp h)) (fun h => k2 (fun q => h ((lg_cmp_lt x y).mpr q))))
theorem bl_ge {x y : Int64} {off : Int} {tgt : Nat} (S : CallFix p m c cc nL s args BW own) (d1 : decode cc pc = .ok (.lcmp, 1)) (hdg : decode cc (pc + 1) = .ok (.ifCond .ge off, 3)) (ht : ((pc + 1 : Nat) : Int) + off = (tgt : Int)) (k1 : y ≤ x → W p l e R s m args below meth c H locs cells slots Q (F0 m tgt ls rest)) (k2 : ¬ y ≤ x → W p l e R s m args below meth c H locs cells slots Q (F0 m (pc + 1 + 3) ls rest)) : W p l e R s m args below meth c H locs cells slots Q (F0 m pc ls (.long y :: .long x :: rest)) :=
  W.lcmp S.1 S.2.1 d1 (lv_if_ge S.1 S.2.1 hdg ht (fun h => k1 ((lg_cmp_ge x y).mp h)) (fun h => k2 (fun q => h ((lg_cmp_ge x y).mpr q))))
theorem bl_gt {x y : Int64} {off : Int} {tgt : Nat} (S : CallFix p m c cc nL s args BW own) (d1 : decode cc pc = .ok (.lcmp, 1)) (hdg : decode cc (pc + 1) = .ok (.ifCond .gt off, 3)) (ht : ((pc + 1 : Nat) : Int) + off = (tgt : Int)) (k1 : y < x → W p l e R s m args below meth c H locs cells slots Q (F0 m tgt ls rest)) (k2 : ¬ y < x → W p l e R s m args below meth c H locs cells slots Q (F0 m (pc + 1 + 3) ls rest)) : W p l e R s m args below meth c H locs cells slots Q (F0 m pc ls (.long y :: .long x :: rest)) :=
  W.lcmp S.1 S.2.1 d1 (lv_if_gt S.1 S.2.1 hdg ht (fun h => k1 ((lg_cmp_gt x y).mp h)) (fun h => k2 (fun q => h ((lg_cmp_gt x y).mpr q))))
theorem bl_le {x y : Int64} {off : Int} {tgt : Nat} (S : CallFix p m c cc nL s args BW own) (d1 : decode cc pc = .ok (.lcmp, 1)) (hdg : decode cc (pc + 1) = .ok (.ifCond .le off, 3)) (ht : ((pc + 1 : Nat) : Int) + off = (tgt : Int)) (k1 : x ≤ y → W p l e R s m args below meth c H locs cells slots Q (F0 m tgt ls rest)) (k2 : ¬ x ≤ y → W p l e R s m args below meth c H locs cells slots Q (F0 m (pc + 1 + 3) ls rest)) : W p l e R s m args below meth c H locs cells slots Q (F0 m pc ls (.long y :: .long x :: rest)) :=
  W.lcmp S.1 S.2.1 d1 (lv_if_le S.1 S.2.1 hdg ht (fun h => k1 ((lg_cmp_le x y).mp h)) (fun h => k2 (fun q => h ((lg_cmp_le x y).mpr q))))
/-- ints that are named by a fact -/
theorem tpi {x x' : Int32} (h : x = x') (k : W p l e R s m args below meth c H locs cells slots Q (F0 m pc ls (.int x' :: rest))) : W p l e R s m args below meth c H locs cells slots Q (F0 m pc ls (.int x :: rest)) := h ▸ k
theorem tpl {x x' : Int64} (h : x = x') (k : W p l e R s m args below meth c H locs cells slots Q (F0 m pc ls (.long x' :: rest))) : W p l e R s m args below meth c H locs cells slots Q (F0 m pc ls (.long x :: rest)) := h ▸ k
end RU
