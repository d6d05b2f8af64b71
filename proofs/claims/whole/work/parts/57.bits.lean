/-! bits of sixteen rows -/
def b1N (x : Nat) : Nat := Nat.mod (Nat.add (Nat.sub 4294967296 (Nat.land (Nat.shiftRight x 1) 1431655765)) x) 4294967296
def b2N (a : Nat) : Nat := Nat.mod (Nat.add (Nat.land a 858993459) (Nat.land (Nat.shiftRight a 2) 858993459)) 4294967296
def b3N (b : Nat) : Nat := Nat.land (Nat.mod (Nat.add b (Nat.shiftRight b 4)) 4294967296) 252645135
def b4N (c : Nat) : Nat := Nat.mod (Nat.add c (Nat.shiftRight c 8)) 4294967296
def b5N (d : Nat) : Nat := Nat.land (Nat.mod (Nat.add d (Nat.shiftRight d 16)) 4294967296) 63
def bcN (x : Nat) : Nat := b5N (b4N (b3N (b2N (b1N x))))
def bcOk (n : Nat) : Nat → Nat → Bool
  | 0, _ => true
  | k + 1, y => Bool.and (Nat.beq (bcN (Nat.add (Nat.pow 2 n) y)) (Nat.succ (bcN y))) (bcOk n k (Nat.succ y))
theorem bcOk_at {n : Nat} : ∀ k y, bcOk n k y = true → ∀ j, y ≤ j → j < y + k → bcN (2 ^ n + j) = bcN j + 1
  | 0, y, _, j, h1, h2 => by omega
  | k + 1, y, h, j, h1, h2 => by
    have h' : (Nat.beq (bcN (2 ^ n + y)) (Nat.succ (bcN y)) && bcOk n k (Nat.succ y)) = true := h
    rw [Bool.and_eq_true] at h'
    by_cases e : j = y
    · subst e
      exact Nat.eq_of_beq_eq_true h'.1
    · exact bcOk_at k (y + 1) h'.2 j (by omega) (by omega)
def bcOk2 (n : Nat) : Nat → Nat → Bool
  | 0, _ => true
  | k + 1, c => Bool.and (bcOk n 256 (Nat.mul 256 c)) (bcOk2 n k (Nat.succ c))
theorem bcOk2_at {n : Nat} : ∀ k c, bcOk2 n k c = true → ∀ j, 256 * c ≤ j → j < 256 * (c + k) → bcN (2 ^ n + j) = bcN j + 1
  | 0, y, _, j, h1, h2 => by omega
  | k + 1, c, h, j, h1, h2 => by
    have h' : (bcOk n 256 (256 * c) && bcOk2 n k (c + 1)) = true := h
    rw [Bool.and_eq_true] at h'
    by_cases e : j < 256 * (c + 1)
    · exact bcOk_at 256 _ h'.1 j h1 (by omega)
    · exact bcOk2_at k (c + 1) h'.2 j (by omega) (by omega)
theorem bcT_0 : bcOk 0 1 0 = true := by decide +kernel
theorem bcT_1 : bcOk 1 2 0 = true := by decide +kernel
theorem bcT_2 : bcOk 2 4 0 = true := by decide +kernel
theorem bcT_3 : bcOk 3 8 0 = true := by decide +kernel
theorem bcT_4 : bcOk 4 16 0 = true := by decide +kernel
theorem bcT_5 : bcOk 5 32 0 = true := by decide +kernel
theorem bcT_6 : bcOk 6 64 0 = true := by decide +kernel
theorem bcT_7 : bcOk 7 128 0 = true := by decide +kernel
theorem bcT_8 : bcOk 8 256 0 = true := by decide +kernel
theorem bcT_9 : bcOk2 9 2 0 = true := by decide +kernel
theorem bcT_10 : bcOk2 10 4 0 = true := by decide +kernel
theorem bcT_11 : bcOk2 11 8 0 = true := by decide +kernel
theorem bcT_12 : bcOk2 12 16 0 = true := by decide +kernel
theorem bcT_13 : bcOk2 13 32 0 = true := by decide +kernel
theorem bcT_14 : bcOk2 14 64 0 = true := by decide +kernel
theorem bcT_15 : bcOk2 15 128 0 = true := by decide +kernel
theorem bc_add : ∀ n, n < 16 → ∀ y, y < 2 ^ n → bcN (2 ^ n + y) = bcN y + 1 := by
  intro n hn y hy
  rcases (show n = 0 ∨ n = 1 ∨ n = 2 ∨ n = 3 ∨ n = 4 ∨ n = 5 ∨ n = 6 ∨ n = 7 ∨ n = 8 ∨ n = 9 ∨ n = 10 ∨ n = 11 ∨ n = 12 ∨ n = 13 ∨ n = 14 ∨ n = 15 by omega) with rfl | rfl | rfl | rfl | rfl | rfl | rfl | rfl | rfl | rfl | rfl | rfl | rfl | rfl | rfl | rfl
  · exact bcOk_at _ _ bcT_0 y (by omega) (by simpa using hy)
  · exact bcOk_at _ _ bcT_1 y (by omega) (by simpa using hy)
  · exact bcOk_at _ _ bcT_2 y (by omega) (by simpa using hy)
  · exact bcOk_at _ _ bcT_3 y (by omega) (by simpa using hy)
  · exact bcOk_at _ _ bcT_4 y (by omega) (by simpa using hy)
  · exact bcOk_at _ _ bcT_5 y (by omega) (by simpa using hy)
  · exact bcOk_at _ _ bcT_6 y (by omega) (by simpa using hy)
  · exact bcOk_at _ _ bcT_7 y (by omega) (by simpa using hy)
  · exact bcOk_at _ _ bcT_8 y (by omega) (by simpa using hy)
  · exact bcOk2_at _ _ bcT_9 y (by omega) (by simpa using hy)
  · exact bcOk2_at _ _ bcT_10 y (by omega) (by simpa using hy)
  · exact bcOk2_at _ _ bcT_11 y (by omega) (by simpa using hy)
  · exact bcOk2_at _ _ bcT_12 y (by omega) (by simpa using hy)
  · exact bcOk2_at _ _ bcT_13 y (by omega) (by simpa using hy)
  · exact bcOk2_at _ _ bcT_14 y (by omega) (by simpa using hy)
  · exact bcOk2_at _ _ bcT_15 y (by omega) (by simpa using hy)
def bts (p : Nat → Bool) : Nat → Nat
  | 0 => 0
  | n + 1 => if p n then 2 ^ n + bts p n else bts p n
theorem bts_lt (p : Nat → Bool) : ∀ n, bts p n < 2 ^ n
  | 0 => Nat.zero_lt_one
  | n + 1 => by
    have := bts_lt p n
    have e : 2 ^ (n + 1) = 2 ^ n + 2 ^ n := by rw [Nat.pow_succ]; omega
    unfold bts
    split <;> omega
theorem bcN_bts (p : Nat → Bool) : ∀ n, n ≤ 16 → bcN (bts p n) = fb_ct p n
  | 0, _ => (by decide : bcN 0 = 0)
  | n + 1, h => by
    rw [fb_ct_succ, bts]
    split
    · rw [bc_add n (by omega) _ (bts_lt p n), bcN_bts p n (by omega)]
    · rw [bcN_bts p n (by omega)]; rfl
theorem shl_n : ∀ n, n < 16 → (1 : Int32) <<< (nI n &&& 31) = nI (2 ^ n) := by decide +kernel
theorem nI_or (a b : Nat) : nI a ||| nI b = nI (a ||| b) := by
  unfold nI
  apply Int32.toBitVec_inj.mp
  simp [BitVec.ofNat_or]
theorem pb_bts (p : Nat → Bool) : ∀ n, n ≤ 16 → pb p n = nI (bts p n)
  | 0, _ => rfl
  | n + 1, h => by
    rw [pb_succ, pb_bts p n (by omega), bts]
    split
    · rw [shl_n n (by omega), nI_or, Nat.or_comm]
      have := Nat.two_pow_add_eq_or_of_lt (bts_lt p n) 1
      rw [Nat.mul_one] at this
      rw [this]
    · rfl
/-- an int's bits as a number -/
def bn (x : Int32) : Nat := x.toBitVec.toNat
theorem bn_and (x y : Int32) : bn (x &&& y) = Nat.land (bn x) (bn y) := by
  unfold bn; rw [Int32.toBitVec_and, BitVec.toNat_and]; rfl
theorem bn_add (x y : Int32) : bn (x + y) = Nat.mod (Nat.add (bn x) (bn y)) 4294967296 := by
  unfold bn; rw [Int32.toBitVec_add, BitVec.toNat_add]; rfl
theorem bn_sub (x y : Int32) : bn (x - y) = Nat.mod (Nat.add (Nat.sub 4294967296 (bn y)) (bn x)) 4294967296 := by
  unfold bn; rw [Int32.toBitVec_sub, BitVec.toNat_sub]; rfl
theorem bn_ius1 (x : Int32) : bn (ius x (1 : Int32)) = Nat.shiftRight (bn x) 1 := by
  have e : ((1 : Int32).toUInt32 &&& Int32.toUInt32 31) = 1 := by decide
  unfold ius
  rw [e]
  unfold bn
  show (x.toUInt32 >>> (1 : UInt32)).toBitVec.toNat = _
  rw [UInt32.toBitVec_shiftRight]
  show BitVec.toNat (x.toBitVec >>> (1 : Nat)) = _
  rw [BitVec.toNat_ushiftRight]
  rfl
theorem bn_ius2 (x : Int32) : bn (ius x (2 : Int32)) = Nat.shiftRight (bn x) 2 := by
  have e : ((2 : Int32).toUInt32 &&& Int32.toUInt32 31) = 2 := by decide
  unfold ius
  rw [e]
  unfold bn
  show (x.toUInt32 >>> (2 : UInt32)).toBitVec.toNat = _
  rw [UInt32.toBitVec_shiftRight]
  show BitVec.toNat (x.toBitVec >>> (2 : Nat)) = _
  rw [BitVec.toNat_ushiftRight]
  rfl
theorem bn_ius4 (x : Int32) : bn (ius x (4 : Int32)) = Nat.shiftRight (bn x) 4 := by
  have e : ((4 : Int32).toUInt32 &&& Int32.toUInt32 31) = 4 := by decide
  unfold ius
  rw [e]
  unfold bn
  show (x.toUInt32 >>> (4 : UInt32)).toBitVec.toNat = _
  rw [UInt32.toBitVec_shiftRight]
  show BitVec.toNat (x.toBitVec >>> (4 : Nat)) = _
  rw [BitVec.toNat_ushiftRight]
  rfl
theorem bn_ius8 (x : Int32) : bn (ius x (8 : Int32)) = Nat.shiftRight (bn x) 8 := by
  have e : ((8 : Int32).toUInt32 &&& Int32.toUInt32 31) = 8 := by decide
  unfold ius
  rw [e]
  unfold bn
  show (x.toUInt32 >>> (8 : UInt32)).toBitVec.toNat = _
  rw [UInt32.toBitVec_shiftRight]
  show BitVec.toNat (x.toBitVec >>> (8 : Nat)) = _
  rw [BitVec.toNat_ushiftRight]
  rfl
theorem bn_ius16 (x : Int32) : bn (ius x (16 : Int32)) = Nat.shiftRight (bn x) 16 := by
  have e : ((16 : Int32).toUInt32 &&& Int32.toUInt32 31) = 16 := by decide
  unfold ius
  rw [e]
  unfold bn
  show (x.toUInt32 >>> (16 : UInt32)).toBitVec.toNat = _
  rw [UInt32.toBitVec_shiftRight]
  show BitVec.toNat (x.toBitVec >>> (16 : Nat)) = _
  rw [BitVec.toNat_ushiftRight]
  rfl
theorem bn_nI {x : Nat} (h : x < 4294967296) : bn (nI x) = x := by
  unfold bn nI
  show x % 4294967296 = x
  exact Nat.mod_eq_of_lt h
theorem bn_inj {x y : Int32} (h : bn x = bn y) : x = y := Int32.toBitVec_inj.mp (BitVec.eq_of_toNat_eq h)
theorem bc_bcN {x : Nat} (h : x < 65536) (hb : bcN x < 65536) : f_J6_bitCount_0f7a4 (nI x) = some (nI (bcN x)) := by
  unfold f_J6_bitCount_0f7a4
  congr 1
  apply bn_inj
  rw [bn_nI (show bcN x < 4294967296 by omega)]
  simp only [bn_and, bn_add, bn_sub, bn_ius1, bn_ius2, bn_ius4, bn_ius8, bn_ius16, bn_nI (show x < 4294967296 by omega)]
  rfl
theorem bc_pb16 (p : Nat → Bool) {n : Nat} (hn : n ≤ 16) : f_J6_bitCount_0f7a4 (pb p n) = some (nI (fb_ct p n)) := by
  have hle := fb_ct_le p n
  rw [pb_bts p n hn, bc_bcN (Nat.lt_of_lt_of_le (bts_lt p n) (Nat.le_trans (Nat.pow_le_pow_right (by omega) hn) (by decide))) (by rw [bcN_bts p n hn]; omega), bcN_bts p n hn]
