/-- an int64 as a natural number -/
def uN (x : Int64) : Nat := x.toBitVec.toNat
theorem uN_lt (x : Int64) : uN x < 2 ^ 64 := x.toBitVec.isLt
theorem uN_shr (x : Int64) (k : Nat) (s : UInt64) (hs : s.toBitVec = BitVec.ofNat 64 k) (hk : k < 64) : uN ((x.toUInt64 >>> s).toInt64) = uN x / 2 ^ k := by
  show ((x.toUInt64 >>> s).toBitVec).toNat = _
  rw [UInt64.toBitVec_shiftRight, hs]
  show ((x.toBitVec) >>> ((BitVec.ofNat 64 k) % 64#64)).toNat = _
  have e : (BitVec.ofNat 64 k % 64#64).toNat = k := by
    rw [BitVec.toNat_umod, BitVec.toNat_ofNat, Nat.mod_eq_of_lt (a := k) (by omega)]
    exact Nat.mod_eq_of_lt hk
  rw [BitVec.ushiftRight_eq', e, BitVec.toNat_ushiftRight, Nat.shiftRight_eq_div_pow]; rfl
theorem uN_and (x y : Int64) : uN (x &&& y) = uN x &&& uN y := by
  show (x &&& y).toBitVec.toNat = _
  rw [Int64.toBitVec_and, BitVec.toNat_and]; rfl
theorem uN_add (x y : Int64) (h : uN x + uN y < 2 ^ 64) : uN (x + y) = uN x + uN y := by
  show (x + y).toBitVec.toNat = _
  rw [Int64.toBitVec_add, BitVec.toNat_add]
  exact Nat.mod_eq_of_lt h
theorem uN_sub (x y : Int64) (h : uN y ≤ uN x) : uN (x - y) = uN x - uN y := by
  show (x - y).toBitVec.toNat = _
  rw [Int64.toBitVec_sub, BitVec.toNat_sub]
  have h1 := uN_lt x
  have h2 := uN_lt y
  unfold uN at *
  omega
theorem pq_land (r a d c : Nat) (ha : a < 256) (hc : c < 256) : (256 * r + a) &&& (256 * d + c) = 256 * (r &&& d) + (a &&& c) := by
  have e : (256 : Nat) = 2 ^ 8 := rfl
  rw [e] at *
  have hac : a &&& c < 2 ^ 8 := Nat.lt_of_le_of_lt Nat.and_le_left ha
  apply Nat.eq_of_testBit_eq
  intro j
  rw [Nat.testBit_and, Nat.testBit_two_pow_mul_add _ ha, Nat.testBit_two_pow_mul_add _ hc, Nat.testBit_two_pow_mul_add _ hac]
  by_cases h : j < 8
  · simp [h]
  · simp [h]
def pq1 (M x : Nat) : Nat := x - ((x / 2) &&& M)
def pq2 (M x : Nat) : Nat := (x &&& M) + ((x / 4) &&& M)
def pq3 (M x : Nat) : Nat := (x + x / 16) &&& M
theorem pq1_b (M r a : Nat) (ha : a < 256) : pq1 (256 * M + 85) (256 * r + a) = 256 * pq1 M r + pq1 85 a := by
  have e : (256 * r + a) / 2 = 256 * (r / 2) + (128 * (r % 2) + a / 2) := by omega
  have h2 : 128 * (r % 2) + a / 2 < 256 := by omega
  have key : ∀ b, b < 2 → ∀ a, a < 256 → (128 * b + a / 2) &&& 85 = (a / 2) &&& 85 := by decide +kernel
  unfold pq1
  rw [e, pq_land _ _ _ _ h2 (by decide), key _ (by omega) a ha]
  have q1 : (r / 2) &&& M ≤ r := Nat.le_trans Nat.and_le_left (by omega)
  have q2 : (a / 2) &&& 85 ≤ a := Nat.le_trans Nat.and_le_left (by omega)
  omega
theorem pq2_b (M r a : Nat) (ha : a < 256) : pq2 (256 * M + 51) (256 * r + a) = 256 * pq2 M r + pq2 51 a := by
  have e : (256 * r + a) / 4 = 256 * (r / 4) + (64 * (r % 4) + a / 4) := by omega
  have h2 : 64 * (r % 4) + a / 4 < 256 := by omega
  have key : ∀ b, b < 4 → ∀ a, a < 256 → (64 * b + a / 4) &&& 51 = (a / 4) &&& 51 := by decide +kernel
  unfold pq2
  rw [e, pq_land _ _ _ _ ha (by decide), pq_land _ _ _ _ h2 (by decide), key _ (by omega) a ha]
  omega
theorem pq3_b (M r a : Nat) (ha : a % 16 ≤ 4 ∧ a / 16 ≤ 4) (hr : r % 16 ≤ 4) : pq3 (256 * M + 15) (256 * r + a) = 256 * pq3 M r + pq3 15 a := by
  have e : (256 * r + a) + (256 * r + a) / 16 = 256 * (r + r / 16) + (a + a / 16 + 16 * (r % 16)) := by omega
  have h2 : a + a / 16 + 16 * (r % 16) < 256 := by omega
  have key : ∀ b, b < 5 → ∀ a, a < 80 → a % 16 ≤ 4 → (a + a / 16 + 16 * b) &&& 15 = (a + a / 16) &&& 15 := by decide +kernel
  unfold pq3
  rw [e, pq_land _ _ _ _ h2 (by decide), key _ (by omega) a (by omega) ha.1]
/-- the bits of a byte -/
def pq8 (a : Nat) : Nat := (a.testBit 0).toNat + (a.testBit 1).toNat + (a.testBit 2).toNat + (a.testBit 3).toNat + (a.testBit 4).toNat + (a.testBit 5).toNat + (a.testBit 6).toNat + (a.testBit 7).toNat
theorem pq_byte : ∀ a, a < 256 → pq1 85 a < 256 ∧ pq2 51 (pq1 85 a) < 256 ∧ pq2 51 (pq1 85 a) % 16 ≤ 4 ∧ pq2 51 (pq1 85 a) / 16 ≤ 4 ∧ pq3 15 (pq2 51 (pq1 85 a)) = pq8 a := by decide +kernel
def pqM (c : Nat) : Nat → Nat
  | 0 => 0
  | k + 1 => 256 * pqM c k + c
/-- the counts, byte by byte -/
def pqB : Nat → Nat → Nat
  | 0, _ => 0
  | k + 1, x => 256 * pqB k (x / 256) + pq8 (x % 256)
theorem pq_all : ∀ (k x : Nat), x < 256 ^ k → pq3 (pqM 15 k) (pq2 (pqM 51 k) (pq1 (pqM 85 k) x)) = pqB k x ∧ pq2 (pqM 51 k) (pq1 (pqM 85 k) x) % 16 ≤ 4
  | 0, x, h => by
    have : x = 0 := by simpa using h
    subst this
    exact ⟨rfl, by decide⟩
  | k + 1, x, h => by
    have h2 : x / 256 < 256 ^ k := by rw [Nat.pow_succ] at h; omega
    obtain ⟨i1, i2⟩ := pq_all k (x / 256) h2
    have hb : x % 256 < 256 := Nat.mod_lt _ (by decide)
    obtain ⟨a1, a2, a3, a4, a5⟩ := pq_byte _ hb
    have ex : x = 256 * (x / 256) + x % 256 := by omega
    have e1 : pq1 (pqM 85 (k + 1)) x = 256 * pq1 (pqM 85 k) (x / 256) + pq1 85 (x % 256) := by
      conv => lhs; rw [ex]
      exact pq1_b _ _ _ hb
    have e2 : pq2 (pqM 51 (k + 1)) (pq1 (pqM 85 (k + 1)) x) = 256 * pq2 (pqM 51 k) (pq1 (pqM 85 k) (x / 256)) + pq2 51 (pq1 85 (x % 256)) := by
      rw [e1]; exact pq2_b _ _ _ a1
    refine ⟨?_, ?_⟩
    · rw [e2]
      show pq3 (256 * pqM 15 k + 15) _ = _
      rw [pq3_b _ _ _ ⟨a3, a4⟩ i2, i1, a5]; rfl
    · rw [e2]; omega
theorem pq8_le (a : Nat) : pq8 a ≤ 8 := by
  have t : ∀ b : Bool, b.toNat ≤ 1 := fun b => by cases b <;> decide
  have := t (a.testBit 0); have := t (a.testBit 1); have := t (a.testBit 2); have := t (a.testBit 3)
  have := t (a.testBit 4); have := t (a.testBit 5); have := t (a.testBit 6); have := t (a.testBit 7)
  unfold pq8; omega
/-- the bits of eight bytes -/
def pq64 (x : Nat) : Nat := pq8 (x % 256) + pq8 (x / 256 % 256) + pq8 (x / 256 / 256 % 256) + pq8 (x / 256 / 256 / 256 % 256) + pq8 (x / 256 / 256 / 256 / 256 % 256) + pq8 (x / 256 / 256 / 256 / 256 / 256 % 256) + pq8 (x / 256 / 256 / 256 / 256 / 256 / 256 % 256) + pq8 (x / 256 / 256 / 256 / 256 / 256 / 256 / 256 % 256)
theorem pq_dv (a q k : Nat) (h : a < k) : (k * q + a) / k = q := by
  rw [Nat.mul_add_div (by omega), Nat.div_eq_of_lt h, Nat.add_zero]
theorem pq_f1 (a b c d e f g h : Nat) : (256 * (256 * (256 * (256 * (256 * (256 * (256 * (256 * 0 + h) + g) + f) + e) + d) + c) + b) + a) + (256 * (256 * (256 * (256 * (256 * (256 * (256 * 0 + h) + g) + f) + e) + d) + c) + b) = 65536 * (256 * (256 * (256 * (256 * (256 * h + (g + h)) + (f + g)) + (e + f)) + (d + e)) + (c + d)) + (256 * (b + c) + (a + b)) := by omega
theorem pq_f2 (a b c d e f g h : Nat) : (65536 * (256 * (256 * (256 * (256 * (256 * h + (g + h)) + (f + g)) + (e + f)) + (d + e)) + (c + d)) + (256 * (b + c) + (a + b))) + (256 * (256 * (256 * (256 * (256 * h + (g + h)) + (f + g)) + (e + f)) + (d + e)) + (c + d)) = 4294967296 * (256 * (256 * (256 * h + (g + h)) + (f + g + h)) + (e + f + g + h)) + (256 * (256 * (256 * (d + e + f + g) + (c + d + e + f)) + (b + c + d + e)) + (a + b + c + d)) := by omega
theorem pq_f3 (a b c d e f g h : Nat) : (4294967296 * (256 * (256 * (256 * h + (g + h)) + (f + g + h)) + (e + f + g + h)) + (256 * (256 * (256 * (d + e + f + g) + (c + d + e + f)) + (b + c + d + e)) + (a + b + c + d))) + (256 * (256 * (256 * h + (g + h)) + (f + g + h)) + (e + f + g + h)) = 128 * (33554432 * (256 * (256 * (256 * h + (g + h)) + (f + g + h)) + (e + f + g + h)) + 2 * (256 * (256 * (d + e + f + g) + (c + d + e + f)) + (b + c + d + e)) + 2 * (256 * (256 * h + (g + h)) + (f + g + h))) + (a + b + c + d + (e + f + g + h)) := by omega
theorem pq_fb (q r k : Nat) (hr : r ≤ 255) (hq : q ≤ k) : 256 * q + r ≤ 256 * k + 255 := by omega
theorem pq_fin (a b c d e f g h : Nat) (ha : a ≤ 8) (hb : b ≤ 8) (hc : c ≤ 8) (hd : d ≤ 8) (he : e ≤ 8) (hf : f ≤ 8) (hg : g ≤ 8) (hh : h ≤ 8) (y : Nat) (hy : y = 256 * (256 * (256 * (256 * (256 * (256 * (256 * (256 * 0 + h) + g) + f) + e) + d) + c) + b) + a) (z w v : Nat) (hz : z = y + y / 256) (hw : w = z + z / 65536) (hv : v = w + w / 4294967296) : y + y / 256 < 2 ^ 64 ∧ z + z / 65536 < 2 ^ 64 ∧ w + w / 4294967296 < 2 ^ 64 ∧ v % 128 = a + b + c + d + e + f + g + h := by
  have z9 : z ≤ y + y := by rw [hz]; exact Nat.add_le_add_left (Nat.div_le_self _ _) _
  have w9 : w ≤ z + z := by rw [hw]; exact Nat.add_le_add_left (Nat.div_le_self _ _) _
  have d1 := Nat.div_le_self z 65536
  have d2 := Nat.div_le_self w 4294967296
  have e1 : y / 256 = 256 * (256 * (256 * (256 * (256 * (256 * (256 * 0 + h) + g) + f) + e) + d) + c) + b := by rw [hy]; exact pq_dv _ _ _ (by clear hy hz hw hv z9 w9 d1 d2; omega)
  rw [e1, hy, pq_f1] at hz
  have e3 : z / 65536 = 256 * (256 * (256 * (256 * (256 * h + (g + h)) + (f + g)) + (e + f)) + (d + e)) + (c + d) := by rw [hz]; exact pq_dv _ _ _ (by clear hy hz hw hv e1 z9 w9 d1 d2; omega)
  rw [e3, hz, pq_f2] at hw
  have e5 : w / 4294967296 = 256 * (256 * (256 * h + (g + h)) + (f + g + h)) + (e + f + g + h) := by rw [hw]; exact pq_dv _ _ _ (by clear hy hz hw hv e1 e3 z9 w9 d1 d2; omega)
  rw [e5, hw, pq_f3] at hv
  have y9 : y ≤ 256 * (256 * (256 * (256 * (256 * (256 * (256 * 8 + 255) + 255) + 255) + 255) + 255) + 255) + 255 := by
    rw [hy]
    exact pq_fb _ _ _ (by omega) (pq_fb _ _ _ (by omega) (pq_fb _ _ _ (by omega) (pq_fb _ _ _ (by omega) (pq_fb _ _ _ (by omega) (pq_fb _ _ _ (by omega) (pq_fb _ _ _ (by omega) (by omega)))))))
  clear hy e1 hz e3 hw e5
  refine ⟨?_, ?_, ?_, ?_⟩
  · clear hv z9 w9 d1 d2; have := Nat.div_le_self y 256; omega
  · refine Nat.lt_of_le_of_lt (Nat.add_le_add_left d1 _) ?_; clear hv d1 d2 w9; omega
  · refine Nat.lt_of_le_of_lt (Nat.add_le_add_left d2 _) ?_; clear hv d1 d2; omega
  clear z9 w9 d1 d2 y9
  rw [hv, Nat.mul_add_mod, Nat.mod_eq_of_lt (by clear hv; omega)]
  clear hv
  omega
theorem bcnt_nat (x : Int64) : (bcnt x).toInt = pq64 (uN x) := by
  have h1 : uN (bc1 x) = pq1 (pqM 85 8) (uN x) := by
    unfold bc1
    have e : uN ((x.toUInt64 >>> ((1 : Int32).toInt64.toUInt64 &&& Int64.toUInt64 63)).toInt64 &&& 6148914691236517205) = (uN x / 2) &&& pqM 85 8 := by
      rw [uN_and, uN_shr x 1 _ (by decide) (by decide)]; rfl
    rw [uN_sub _ _ (by rw [e]; exact Nat.le_trans Nat.and_le_left (by omega)), e]; rfl
  have b1 : uN x < 256 ^ 8 := uN_lt x
  have m2 : ∀ y, uN (bc2 y) = pq2 (pqM 51 8) (uN y) := by
    intro y
    unfold bc2
    have e1 : uN (y &&& 3689348814741910323) = uN y &&& pqM 51 8 := by rw [uN_and]; rfl
    have e2 : uN ((y.toUInt64 >>> ((2 : Int32).toInt64.toUInt64 &&& Int64.toUInt64 63)).toInt64 &&& 3689348814741910323) = (uN y / 4) &&& pqM 51 8 := by
      rw [uN_and, uN_shr y 2 _ (by decide) (by decide)]; rfl
    have m : pqM 51 8 = 3689348814741910323 := by decide
    rw [uN_add _ _ (by rw [e1, e2]; have := @Nat.and_le_right (uN y) (pqM 51 8); have := @Nat.and_le_right (uN y / 4) (pqM 51 8); omega), e1, e2]; rfl
  have h2 := m2 (bc1 x)
  rw [h1] at h2
  obtain ⟨ha, hm⟩ := pq_all 8 (uN x) b1
  have h3 : uN (bc3 (bc2 (bc1 x))) = pq3 (pqM 15 8) (pq2 (pqM 51 8) (pq1 (pqM 85 8) (uN x))) := by
    unfold bc3
    have hle : pq2 (pqM 51 8) (pq1 (pqM 85 8) (uN x)) ≤ 2 * 3689348814741910323 := by
      unfold pq2
      have q1 := @Nat.and_le_right (pq1 (pqM 85 8) (uN x)) (pqM 51 8)
      have q2 := @Nat.and_le_right (pq1 (pqM 85 8) (uN x) / 4) (pqM 51 8)
      have m : pqM 51 8 = 3689348814741910323 := by decide
      omega
    rw [uN_and, uN_add _ _ (by rw [uN_shr _ 4 _ (by decide) (by decide), h2]; omega), uN_shr _ 4 _ (by decide) (by decide), h2]; rfl
  rw [ha] at h3
  have fs := pq_fin _ _ _ _ _ _ _ _ (pq8_le (uN x % 256)) (pq8_le (uN x / 256 % 256)) (pq8_le (uN x / 256 / 256 % 256)) (pq8_le (uN x / 256 / 256 / 256 % 256)) (pq8_le (uN x / 256 / 256 / 256 / 256 % 256)) (pq8_le (uN x / 256 / 256 / 256 / 256 / 256 % 256)) (pq8_le (uN x / 256 / 256 / 256 / 256 / 256 / 256 % 256)) (pq8_le (uN x / 256 / 256 / 256 / 256 / 256 / 256 / 256 % 256)) (pqB 8 (uN x)) rfl _ _ _ rfl rfl rfl
  obtain ⟨f1, f2, f3, f4⟩ := fs
  have h4 : uN (bc4 (bc3 (bc2 (bc1 x)))) = pqB 8 (uN x) + pqB 8 (uN x) / 256 := by
    unfold bc4
    rw [uN_add _ _ (by rw [uN_shr _ 8 _ (by decide) (by decide), h3]; exact f1), uN_shr _ 8 _ (by decide) (by decide), h3]
  have h5 : uN (bc5 (bc4 (bc3 (bc2 (bc1 x))))) = (pqB 8 (uN x) + pqB 8 (uN x) / 256) + (pqB 8 (uN x) + pqB 8 (uN x) / 256) / 65536 := by
    unfold bc5
    rw [uN_add _ _ (by rw [uN_shr _ 16 _ (by decide) (by decide), h4]; exact f2), uN_shr _ 16 _ (by decide) (by decide), h4]
  have h6 : uN (bc6 (bc5 (bc4 (bc3 (bc2 (bc1 x)))))) = ((pqB 8 (uN x) + pqB 8 (uN x) / 256) + (pqB 8 (uN x) + pqB 8 (uN x) / 256) / 65536) + ((pqB 8 (uN x) + pqB 8 (uN x) / 256) + (pqB 8 (uN x) + pqB 8 (uN x) / 256) / 65536) / 4294967296 := by
    unfold bc6
    rw [uN_add _ _ (by rw [uN_shr _ 32 _ (by decide) (by decide), h5]; exact f3), uN_shr _ 32 _ (by decide) (by decide), h5]
  have h7 : (bcnt x).toBitVec.toNat = pq64 (uN x) := by
    show ((bc6 (bc5 (bc4 (bc3 (bc2 (bc1 x)))))).toInt32 &&& 127).toBitVec.toNat = _
    rw [Int32.toBitVec_and, BitVec.toNat_and]
    show ((bc6 (bc5 (bc4 (bc3 (bc2 (bc1 x)))))).toBitVec.signExtend 32).toNat &&& 127 = _
    rw [show (127 : Nat) = 2 ^ 7 - 1 from rfl, Nat.and_two_pow_sub_one_eq_mod]
    have : ((bc6 (bc5 (bc4 (bc3 (bc2 (bc1 x)))))).toBitVec.signExtend 32).toNat = uN (bc6 (bc5 (bc4 (bc3 (bc2 (bc1 x)))))) % 2 ^ 32 := by
      rw [BitVec.signExtend_eq_setWidth_of_le _ (by decide), BitVec.toNat_setWidth]; rfl
    rw [this, h6]
    have e128 : ∀ v : Nat, v % 2 ^ 32 % 2 ^ 7 = v % 128 := fun v => by omega
    rw [e128, f4]; rfl
  have h8 : pq64 (uN x) ≤ 64 := by
    unfold pq64
    have := pq8_le (uN x % 256); have := pq8_le (uN x / 256 % 256); have := pq8_le (uN x / 256 / 256 % 256); have := pq8_le (uN x / 256 / 256 / 256 % 256); have := pq8_le (uN x / 256 / 256 / 256 / 256 % 256); have := pq8_le (uN x / 256 / 256 / 256 / 256 / 256 % 256); have := pq8_le (uN x / 256 / 256 / 256 / 256 / 256 / 256 % 256); have := pq8_le (uN x / 256 / 256 / 256 / 256 / 256 / 256 / 256 % 256)
    omega
  show (bcnt x).toBitVec.toInt = _
  rw [BitVec.toInt_eq_toNat_of_lt (by rw [h7]; omega), h7]
/-- the number of a run of bits -/
def pqC (x : Nat) : Nat → Nat
  | 0 => 0
  | k + 1 => pqC x k + (x.testBit k).toNat
theorem pq64_c (x : Nat) : pq64 x = pqC x 64 := by
  have e : ∀ k i, i < 8 → (x / 256 ^ k % 256).testBit i = x.testBit (8 * k + i) := fun k i hi => by
    rw [show (256 : Nat) ^ k = 2 ^ (8 * k) by rw [Nat.pow_mul], show (256 : Nat) = 2 ^ 8 from rfl, Nat.testBit_mod_two_pow, Nat.testBit_div_two_pow]
    simp [hi, Nat.add_comm]
  have e0 := e 0; have e1 := e 1; have e2 := e 2; have e3 := e 3; have e4 := e 4; have e5 := e 5; have e6 := e 6; have e7 := e 7
  simp only [Nat.pow_zero, Nat.div_one, Nat.pow_one] at e0 e1
  unfold pq64
  simp only [Nat.div_div_eq_div_mul]
  unfold pq8
  simp only [show (256 : Nat) * 256 = 256 ^ 2 from rfl, show (256 : Nat) ^ 2 * 256 = 256 ^ 3 from rfl, show (256 : Nat) ^ 3 * 256 = 256 ^ 4 from rfl, show (256 : Nat) ^ 4 * 256 = 256 ^ 5 from rfl, show (256 : Nat) ^ 5 * 256 = 256 ^ 6 from rfl, show (256 : Nat) ^ 6 * 256 = 256 ^ 7 from rfl]
  simp only [e0, e1, e2, e3, e4, e5, e6, e7, Nat.reduceLT, pqC, Nat.reduceMul, Nat.reduceAdd, Nat.zero_add]
  omega
theorem pqC_le {x y : Nat} (h : ∀ i, x.testBit i = true → y.testBit i = true) : ∀ k, pqC x k ≤ pqC y k
  | 0 => Nat.le_refl _
  | k + 1 => by
    have i := pqC_le h k
    unfold pqC
    cases hx : x.testBit k
    · simp; omega
    · rw [h k hx]; simp; omega
theorem pqC_lt {x y : Nat} (h : ∀ i, x.testBit i = true → y.testBit i = true) {j : Nat} (hj : y.testBit j = true) (hn : x.testBit j = false) : ∀ k, j < k → pqC x k < pqC y k
  | 0, q => absurd q (Nat.not_lt_zero _)
  | k + 1, q => by
    unfold pqC
    by_cases e : j = k
    · subst e
      have := pqC_le h j
      rw [hj, hn]; simp; omega
    · have := pqC_lt h hj hn k (by omega)
      cases hx : x.testBit k
      · simp; omega
      · rw [h k hx]; simp; omega
/-- a bit of a long -/
def bt (x : Int64) (i : Nat) : Bool := x.toBitVec.getLsbD i
/-- more bits: a greater count -/
theorem bcnt_lt {x y : Int64} (h : ∀ i, bt x i = true → bt y i = true) {j : Nat} (hj : bt y j = true) (hn : bt x j = false) : bcnt x < bcnt y := by
  have hj64 : j < 64 := by
    apply Classical.byContradiction; intro c
    have : bt y j = false := BitVec.getLsbD_of_ge _ _ (by omega)
    rw [this] at hj; cases hj
  rw [Int32.lt_iff_toInt_lt, bcnt_nat, bcnt_nat, pq64_c, pq64_c]
  exact Int.ofNat_lt.mpr (pqC_lt (x := uN x) (y := uN y) h hj hn 64 hj64)
theorem bt_or (x y : Int64) (i : Nat) : bt (x ||| y) i = (bt x i || bt y i) := by
  show (x ||| y).toBitVec.getLsbD i = _
  rw [Int64.toBitVec_or, BitVec.getLsbD_or]; rfl
theorem bt_0 (i : Nat) : bt 0 i = false := by
  show (0#64).getLsbD i = false
  simp
