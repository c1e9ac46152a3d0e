/-! ===== bits: the family wb of kit/laws/BITS.to-paste, a starting text ===== -/
theorem wb_tb (n : Nat) : (lN n).toBitVec = BitVec.ofNat 64 n := rfl
theorem wb_inj {a b : Int64} (h : a.toBitVec = b.toBitVec) : a = b := Int64.toBitVec_inj.mp h
theorem wb_tn {n : Nat} (h : n < 2 ^ 64) : (lN n).toBitVec.toNat = n := by rw [wb_tb, BitVec.toNat_ofNat, Nat.mod_eq_of_lt h]
theorem wb_of (x : Int64) : ∃ n, n < 2 ^ 64 ∧ x = lN n := ⟨x.toBitVec.toNat, x.toBitVec.isLt, wb_inj (by rw [wb_tb]; simp)⟩
theorem wb_of32 (x : Int32) : ∃ n, n < 2 ^ 32 ∧ x = nI n := ⟨x.toBitVec.toNat, x.toBitVec.isLt, Int32.toBitVec_inj.mp (by show _ = BitVec.ofNat 32 _; simp)⟩
theorem wb_c : ∀ k, k < 64 → ((nI k).toInt64 &&& 63) = lN k := by decide +kernel
theorem wb_cu : ∀ k, k < 64 → ((nI k).toInt64.toUInt64 &&& Int64.toUInt64 63) = UInt64.ofNat k := by decide +kernel
theorem wb_sm : ∀ k, k < 64 → (BitVec.ofNat 64 k).smod 64 = BitVec.ofNat 64 k := by decide +kernel
theorem wb_pw {a b : Nat} (h : a ≤ b) : 2 ^ b = 2 ^ a * 2 ^ (b - a) := by rw [← Nat.pow_add]; congr 1; omega
theorem wb_lt2 {a b : Nat} (h : a < b) : 2 ^ a < 2 ^ b := Nat.pow_lt_pow_right (by decide) h
theorem wb_mod (n : Nat) : lN n = lN (n % 2 ^ 64) := wb_inj (by rw [wb_tb, wb_tb]; apply BitVec.eq_of_toNat_eq; rw [BitVec.toNat_ofNat, BitVec.toNat_ofNat, Nat.mod_mod])
theorem wb_shr {n k : Nat} (hn : n < 2 ^ 64) (hk : k < 64) : ((lN n).toUInt64 >>> ((nI k).toInt64.toUInt64 &&& Int64.toUInt64 63)).toInt64 = lN (n / 2 ^ k) := by
  rw [wb_cu k hk]
  apply wb_inj
  apply BitVec.eq_of_toNat_eq
  show ((lN n).toUInt64 >>> UInt64.ofNat k).toNat = (BitVec.ofNat 64 _).toNat
  have h1 : (UInt64.ofNat k).toNat = k := by
    show (BitVec.ofNat 64 k).toNat = k
    rw [BitVec.toNat_ofNat, Nat.mod_eq_of_lt (by omega)]
  have h2 : (lN n).toUInt64.toNat = n := wb_tn hn
  rw [UInt64.toNat_shiftRight, h1, h2, Nat.mod_eq_of_lt hk, Nat.shiftRight_eq_div_pow, BitVec.toNat_ofNat, Nat.mod_eq_of_lt (Nat.lt_of_le_of_lt (Nat.div_le_self _ _) hn)]
theorem wb_shl (n : Nat) {k : Nat} (hk : k < 64) : lN n <<< ((nI k).toInt64 &&& 63) = lN (n * 2 ^ k) := by
  rw [wb_c k hk]
  apply wb_inj
  rw [Int64.toBitVec_shiftLeft, wb_tb, wb_tb, wb_tb, wb_sm k hk]
  apply BitVec.eq_of_toNat_eq
  rw [BitVec.shiftLeft_eq', BitVec.toNat_shiftLeft, BitVec.toNat_ofNat, BitVec.toNat_ofNat, BitVec.toNat_ofNat, Nat.mod_eq_of_lt (show k < 2 ^ 64 by omega), Nat.shiftLeft_eq, Nat.mul_mod, Nat.mod_mod, ← Nat.mul_mod]
theorem wb_and {a b : Nat} (ha : a < 2 ^ 64) (hb : b < 2 ^ 64) : lN a &&& lN b = lN (a &&& b) := by
  apply wb_inj
  rw [Int64.toBitVec_and, wb_tb, wb_tb, wb_tb]
  apply BitVec.eq_of_toNat_eq
  rw [BitVec.toNat_and, BitVec.toNat_ofNat, BitVec.toNat_ofNat, BitVec.toNat_ofNat, Nat.mod_eq_of_lt ha, Nat.mod_eq_of_lt hb, Nat.mod_eq_of_lt (Nat.and_lt_two_pow _ hb)]
theorem wb_or {a b : Nat} (ha : a < 2 ^ 64) (hb : b < 2 ^ 64) : lN a ||| lN b = lN (a ||| b) := by
  apply wb_inj
  rw [Int64.toBitVec_or, wb_tb, wb_tb, wb_tb]
  apply BitVec.eq_of_toNat_eq
  rw [BitVec.toNat_or, BitVec.toNat_ofNat, BitVec.toNat_ofNat, BitVec.toNat_ofNat, Nat.mod_eq_of_lt ha, Nat.mod_eq_of_lt hb, Nat.mod_eq_of_lt (Nat.or_lt_two_pow ha hb)]
theorem wb_mask {n k : Nat} (hn : n < 2 ^ 64) (hk : k < 64) : lN n &&& lN (2 ^ k - 1) = lN (n % 2 ^ k) := by
  rw [wb_and hn (by have := wb_lt2 hk; omega), Nat.and_two_pow_sub_one_eq_mod]
/-! ===== the reference's two longs of a code ===== -/
def cv : Nat → Nat → Nat
  | 0, _ => 0
  | k + 1, x => cv k (x / 10) * 256 + x % 10
def hiC (c : Nat) : Nat := cv 8 (c / 100000000)
def loC (c : Nat) : Nat := cv 8 c
def bt8 (j s : Nat) : Nat := s / 256 ^ j % 256
theorem dp_div (j x : Nat) : dp j (x / 10) = dp (j + 1) x := by
  unfold dp
  rw [Nat.div_div_eq_div_mul, pow10_succ, Nat.mul_comm]
theorem dp_div8 (j x : Nat) : dp j (x / 100000000) = dp (j + 8) x := by
  unfold dp
  rw [Nat.div_div_eq_div_mul, show (100000000 : Nat) = 10 ^ 8 by decide, ← Nat.pow_add, Nat.add_comm 8 j]
theorem bt8_succ (j a d : Nat) (h : d < 256) : bt8 (j + 1) (a * 256 + d) = bt8 j a := by
  unfold bt8
  rw [Nat.pow_succ, Nat.mul_comm (256 ^ j) 256, ← Nat.div_div_eq_div_mul, show (a * 256 + d) / 256 = a by omega]
theorem bt8_0 (a d : Nat) (h : d < 256) : bt8 0 (a * 256 + d) = d := by
  unfold bt8; simp; omega
theorem cv2_bt : ∀ {k j x y : Nat}, j < k → bt8 j (cv k x + cv k y) = dp j x + dp j y
  | k + 1, 0, x, y, _ => by
    rw [cv, cv, show cv k (x / 10) * 256 + x % 10 + (cv k (y / 10) * 256 + y % 10) = (cv k (x / 10) + cv k (y / 10)) * 256 + (x % 10 + y % 10) by omega, bt8_0 _ _ (by omega)]
    unfold dp; simp
  | k + 1, j + 1, x, y, h => by
    rw [cv, cv, show cv k (x / 10) * 256 + x % 10 + (cv k (y / 10) * 256 + y % 10) = (cv k (x / 10) + cv k (y / 10)) * 256 + (x % 10 + y % 10) by omega, bt8_succ _ _ _ (by omega), cv2_bt (by omega), dp_div, dp_div]
theorem cv_bt : ∀ {k j x : Nat}, j < k → bt8 j (cv k x) = dp j x
  | k + 1, 0, x, _ => by
    rw [cv, bt8_0 _ _ (by omega)]
    unfold dp; simp
  | k + 1, j + 1, x, h => by
    rw [cv, bt8_succ _ _ _ (by omega), cv_bt (by omega), dp_div]
theorem cv_lt : ∀ k x, 25 * cv k x < 256 ^ k
  | 0, x => by simp [cv]
  | k + 1, x => by
    have := cv_lt k (x / 10)
    rw [cv, Nat.pow_succ]
    omega
theorem cv8_lt (x : Nat) : cv 8 x < 800000000000000000 := by
  have := cv_lt 8 x
  have e : (256 : Nat) ^ 8 = 18446744073709551616 := by decide
  rw [e] at this
  omega
theorem cv_ord : ∀ k x y, (x % 10 ^ k < y % 10 ^ k ↔ cv k x < cv k y)
  | 0, x, y => by simp [cv, Nat.mod_one]
  | k + 1, x, y => by
    have h1 := cv_ord k (x / 10) (y / 10)
    have h2 := cv_ord k (y / 10) (x / 10)
    have e : ∀ z : Nat, z % 10 ^ (k + 1) = (z / 10 % 10 ^ k) * 10 + z % 10 := by
      intro z
      rw [pow10_succ, Nat.mul_comm (10 ^ k) 10, Nat.mod_mul]
      omega
    rw [e x, e y, cv, cv]
    generalize x / 10 % 10 ^ k = X at *
    generalize y / 10 % 10 ^ k = Y at *
    generalize cv k (x / 10) = A at *
    generalize cv k (y / 10) = B at *
    have hx : x % 10 < 10 := Nat.mod_lt _ (by decide)
    have hy : y % 10 < 10 := Nat.mod_lt _ (by decide)
    omega
theorem hi_ord (a b : Nat) : (a / 100000000 % 100000000 < b / 100000000 % 100000000 ↔ hiC a < hiC b) := cv_ord 8 (a / 100000000) (b / 100000000)
theorem lo_ord (a b : Nat) : (a % 100000000 < b % 100000000 ↔ loC a < loC b) := cv_ord 8 a b
/-- the sum of the bytes -/
def bsm (h l : Nat) : Nat → Nat
  | 0 => 0
  | m + 1 => bsm h l m + (bt8 m h + bt8 m l)
theorem bsm_dsm (c : Nat) : bsm (hiC c) (loC c) 8 = dsm c 16 := by
  have h : ∀ j, j < 8 → bt8 j (hiC c) = dp (j + 8) c ∧ bt8 j (loC c) = dp j c := fun j hj => ⟨by rw [hiC, cv_bt hj, dp_div8], by rw [loC, cv_bt hj]⟩
  simp only [bsm, dsm]
  rw [(h 0 (by decide)).1, (h 1 (by decide)).1, (h 2 (by decide)).1, (h 3 (by decide)).1, (h 4 (by decide)).1, (h 5 (by decide)).1, (h 6 (by decide)).1, (h 7 (by decide)).1, (h 0 (by decide)).2, (h 1 (by decide)).2, (h 2 (by decide)).2, (h 3 (by decide)).2, (h 4 (by decide)).2, (h 5 (by decide)).2, (h 6 (by decide)).2, (h 7 (by decide)).2]
  simp only [Nat.reduceAdd]
  omega
theorem bsm_le (h l : Nat) : ∀ m, bsm h l m ≤ 510 * m
  | 0 => Nat.le_refl _
  | m + 1 => by
    have := bsm_le h l m
    have h1 : bt8 m h < 256 := Nat.mod_lt _ (by decide)
    have h2 : bt8 m l < 256 := Nat.mod_lt _ (by decide)
    rw [bsm]; omega
theorem vC_deg {c : Nat} (h : vC c) : bsm (hiC c) (loC c) 8 = c / 10000000000000000 := by
  rw [bsm_dsm]
  unfold vC at h
  have e : (10 : Nat) ^ 16 = 10000000000000000 := by decide
  rw [e] at h
  exact h.symm
/-- the order of codes by the reference's way -/
theorem vC_ord {a b : Nat} (ha : vC a) (hb : vC b) : b < a ↔ (bsm (hiC b) (loC b) 8 < bsm (hiC a) (loC a) 8 ∨ (bsm (hiC b) (loC b) 8 = bsm (hiC a) (loC a) 8 ∧ (hiC b < hiC a ∨ (hiC b = hiC a ∧ loC b < loC a)))) := by
  rw [vC_deg ha, vC_deg hb]
  have h1 := hi_ord a b
  have h2 := hi_ord b a
  have h3 := lo_ord a b
  have h4 := lo_ord b a
  generalize hiC a = x at *
  generalize hiC b = y at *
  generalize loC a = z at *
  generalize loC b = u at *
  omega
theorem vC_inj {a b : Nat} (ha : vC a) (hb : vC b) (h : hiC a = hiC b ∧ loC a = loC b) : a = b := by
  have e1 := vC_deg ha
  have e2 := vC_deg hb
  rw [h.1, h.2] at e1
  have h1 := hi_ord a b
  have h2 := hi_ord b a
  have h3 := lo_ord a b
  have h4 := lo_ord b a
  omega
theorem cv_add : ∀ {k x y : Nat}, (∀ j, j < k → dp j x + dp j y ≤ 9) → cv k (x + y) = cv k x + cv k y
  | 0, _, _, _ => rfl
  | k + 1, x, y, h => by
    have h0 := h 0 (by omega)
    unfold dp at h0
    simp at h0
    have e1 : (x + y) / 10 = x / 10 + y / 10 := by omega
    have e2 : (x + y) % 10 = x % 10 + y % 10 := by omega
    rw [cv, cv, cv, e1, e2, cv_add (fun j hj => by rw [dp_div, dp_div]; exact h (j + 1) (by omega))]
    omega
theorem hi_add {a b : Nat} (h : ∀ q, q < 16 → dp q a + dp q b ≤ 9) : hiC (a + b) = hiC a + hiC b := by
  unfold hiC
  have e := add_hd (a := a) (b := b) (p := 8) (fun q hq => h q (by omega))
  have e8 : (10 : Nat) ^ 8 = 100000000 := by decide
  rw [e8] at e
  rw [e]
  exact cv_add (fun j hj => by rw [dp_div8, dp_div8]; exact h (j + 8) (by omega))
theorem lo_add {a b : Nat} (h : ∀ q, q < 16 → dp q a + dp q b ≤ 9) : loC (a + b) = loC a + loC b := cv_add (fun j hj => h j (by omega))
/-- a byte of a sum above 9 is a power above 9 -/
theorem far_hi (a b : Nat) : (∃ j, j < 8 ∧ 9 < bt8 j (hiC a + hiC b)) ↔ ∃ q, 8 ≤ q ∧ q < 16 ∧ 9 < dp q a + dp q b := by
  constructor
  · rintro ⟨j, h1, h2⟩
    rw [hiC, hiC, cv2_bt h1, dp_div8, dp_div8] at h2
    exact ⟨j + 8, by omega, by omega, h2⟩
  · rintro ⟨q, h1, h2, h3⟩
    refine ⟨q - 8, by omega, ?_⟩
    rw [hiC, hiC, cv2_bt (by omega), dp_div8, dp_div8, show q - 8 + 8 = q by omega]
    exact h3
theorem far_lo (a b : Nat) : (∃ j, j < 8 ∧ 9 < bt8 j (loC a + loC b)) ↔ ∃ q, q < 8 ∧ 9 < dp q a + dp q b := by
  constructor
  · rintro ⟨j, h1, h2⟩
    rw [loC, loC, cv2_bt h1] at h2
    exact ⟨j, h1, h2⟩
  · rintro ⟨q, h1, h2⟩
    exact ⟨q, h1, by rw [loC, loC, cv2_bt h1]; exact h2⟩
theorem hi_s : ∀ t, t < 16 → hiC (scode t) = (if t < 8 then 2 ^ (56 - 8 * t) else 0) := by decide +kernel
theorem lo_s : ∀ t, t < 16 → loC (scode t) = (if t < 8 then 0 else 2 ^ (56 - 8 * (t - 8))) := by decide +kernel
theorem hi_0 : hiC 0 = 0 := by decide
theorem lo_0 : loC 0 = 0 := by decide
/-- the power of a symbol by the reference's way -/
theorem dig_hi {c t : Nat} (h : t < 8) : bt8 (7 - t) (hiC c) = dig c t := by
  rw [hiC, cv_bt (by omega), dp_div8, dig_dp, show 7 - t + 8 = 15 - t by omega]
theorem dig_lo {c t : Nat} (h : 8 ≤ t) (h2 : t < 16) : bt8 (7 - (t - 8)) (loC c) = dig c t := by
  rw [loC, cv_bt (by omega), dig_dp, show 7 - (t - 8) = 15 - t by omega]
theorem bt_sh {s j : Nat} (hs : s < 2 ^ 63) (hj : j < 8) : ((lN s).toUInt64 >>> ((nI (8 * j)).toInt64.toUInt64 &&& Int64.toUInt64 63)).toInt64 = lN (s / 256 ^ j) := by
  rw [wb_shr (by omega) (by omega), Nat.pow_mul]
theorem bt_mk {s j : Nat} (hs : s < 2 ^ 63) : lN (s / 256 ^ j) &&& lI 255 = lN (bt8 j s) := by
  have h : s / 256 ^ j < 2 ^ 64 := Nat.lt_of_le_of_lt (Nat.div_le_self _ _) (by omega)
  exact wb_mask (k := 8) h (by decide)
