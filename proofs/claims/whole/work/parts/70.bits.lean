/-! Bits (families pasted out of kit/laws/BITS.to-paste.lean.txt), then bytes and words. -/
def bt (x : Int32) (i : Nat) : Bool := x.toBitVec.getLsbD i
theorem b_ext {x y : Int32} (h : ∀ i, i < 32 → bt x i = bt y i) : x = y := Int32.toBitVec_inj.mp (BitVec.eq_of_getLsbD_eq (fun i hi => h i hi))
theorem b_or (x y : Int32) (i : Nat) : bt (x ||| y) i = (bt x i || bt y i) := by unfold bt; rw [Int32.toBitVec_or, BitVec.getLsbD_or]
theorem b_and (x y : Int32) (i : Nat) : bt (x &&& y) i = (bt x i && bt y i) := by unfold bt; rw [Int32.toBitVec_and, BitVec.getLsbD_and]
theorem b_xor (x y : Int32) (i : Nat) : bt (x ^^^ y) i = (bt x i ^^ bt y i) := by unfold bt; rw [Int32.toBitVec_xor, BitVec.getLsbD_xor]
theorem b_big {x : Int32} {i : Nat} (h : 32 ≤ i) : bt x i = false := BitVec.getLsbD_of_ge _ _ h
theorem b_255 (i : Nat) : bt 255 i = decide (i < 8) := by
  rcases Nat.lt_or_ge i 32 with h | h
  · exact (by decide +kernel : ∀ i, i < 32 → bt 255 i = decide (i < 8)) i h
  · rw [b_big h, decide_eq_false (by omega)]
theorem b_65535 (i : Nat) : bt 65535 i = decide (i < 16) := by
  rcases Nat.lt_or_ge i 32 with h | h
  · exact (by decide +kernel : ∀ i, i < 32 → bt 65535 i = decide (i < 16)) i h
  · rw [b_big h, decide_eq_false (by omega)]
theorem b_m1 : ∀ i, i < 32 → bt (-1) i = true := by decide +kernel
theorem b_0 (i : Nat) : bt 0 i = false := BitVec.getLsbD_zero
theorem s_l : ∀ n, n < 32 → ((nI n &&& 31).toBitVec.smod 32).toNat = n := by decide +kernel
theorem s_u : ∀ n, n < 32 → (((nI n).toUInt32 &&& Int32.toUInt32 31).toBitVec % 32).toNat = n := by decide +kernel
theorem b_shl (n : Nat) (hn : n < 32) (x : Int32) {i : Nat} (hi : i < 32) : bt (x <<< (nI n &&& 31)) i = (decide (n ≤ i) && bt x (i - n)) := by
  unfold bt
  rw [Int32.toBitVec_shiftLeft]
  show (x.toBitVec <<< ((nI n &&& 31).toBitVec.smod 32).toNat).getLsbD i = _
  rw [s_l n hn, BitVec.getLsbD_shiftLeft]
  rcases Nat.lt_or_ge i n with h | h
  · simp [h, Nat.not_le.mpr h]
  · simp [hi, h, Nat.not_lt.mpr h]
theorem b_ushr (n : Nat) (hn : n < 32) (x : Int32) (i : Nat) : bt ((x.toUInt32 >>> ((nI n).toUInt32 &&& Int32.toUInt32 31)).toInt32) i = bt x (n + i) := by
  show (x.toUInt32 >>> ((nI n).toUInt32 &&& Int32.toUInt32 31)).toBitVec.getLsbD i = x.toUInt32.toBitVec.getLsbD (n + i)
  rw [UInt32.toBitVec_shiftRight]
  show (x.toUInt32.toBitVec >>> (((nI n).toUInt32 &&& Int32.toUInt32 31).toBitVec % 32).toNat).getLsbD i = _
  rw [s_u n hn, BitVec.getLsbD_ushiftRight]
theorem b_sshr (n : Nat) (hn : n < 32) (x : Int32) {i : Nat} (hi : i < 32) : bt (x >>> (nI n &&& 31)) i = if n + i < 32 then bt x (n + i) else bt x 31 := by
  unfold bt
  rw [Int32.toBitVec_shiftRight]
  show (x.toBitVec.sshiftRight ((nI n &&& 31).toBitVec.smod 32).toNat).getLsbD i = _
  rw [s_l n hn, BitVec.getLsbD_sshiftRight, BitVec.msb_eq_getLsbD_last]
  simp [hi]
theorem b_shl8 (x : Int32) {i : Nat} (hi : i < 32) : bt (x <<< ((8 : Int32) &&& 31)) i = (decide (8 ≤ i) && bt x (i - 8)) := b_shl 8 (by omega) x hi
theorem b_shl16 (x : Int32) {i : Nat} (hi : i < 32) : bt (x <<< ((16 : Int32) &&& 31)) i = (decide (16 ≤ i) && bt x (i - 16)) := b_shl 16 (by omega) x hi
theorem b_shl24 (x : Int32) {i : Nat} (hi : i < 32) : bt (x <<< ((24 : Int32) &&& 31)) i = (decide (24 ≤ i) && bt x (i - 24)) := b_shl 24 (by omega) x hi
theorem b_sshr8 (x : Int32) {i : Nat} (hi : i < 32) : bt (x >>> ((8 : Int32) &&& 31)) i = if 8 + i < 32 then bt x (8 + i) else bt x 31 := b_sshr 8 (by omega) x hi
theorem bp_b (x : Int32) : x.toInt8.toInt32 &&& 255 = x &&& 255 := by
  apply Int32.toBitVec_inj.mp
  rw [Int32.toBitVec_and, Int32.toBitVec_and, Int8.toBitVec_toInt32, Int32.toBitVec_toInt8]
  apply BitVec.eq_of_getLsbD_eq
  intro i hi
  rw [BitVec.getLsbD_and, BitVec.getLsbD_and]
  have hm : ∀ i < 32, 8 ≤ i → (255 : Int32).toBitVec.getLsbD i = false := by decide
  rcases Nat.lt_or_ge i 8 with z | z
  · rw [BitVec.getLsbD_signExtend, BitVec.getLsbD_signExtend, if_pos z, if_pos hi]
    simp only [z, hi, decide_true, Bool.true_and]
  · rw [hm i hi z]; simp
theorem b_comb (x y : Int32) {i : Nat} (hi : i < 32) : bt ((x <<< ((8 : Int32) &&& 31)) ||| (y &&& 255)) i = if i < 8 then bt y i else bt x (i - 8) := by
  rw [b_or, b_shl8 x hi, b_and, b_255]
  by_cases h : i < 8
  · simp [h, Nat.not_le.mpr h]
  · simp [h, Nat.le_of_not_lt h]
theorem b_i8 (x : Int32) {i : Nat} (hi : i < 32) : bt (Int8.toInt32 (Int32.toInt8 x)) i = if i < 8 then bt x i else bt x 7 := by
  unfold bt
  rw [Int8.toBitVec_toInt32, Int32.toBitVec_toInt8, BitVec.getLsbD_signExtend]
  by_cases h : i < 8
  · rw [if_pos h, BitVec.getLsbD_signExtend, if_pos hi]; simp [h, hi]
  · rw [if_neg h, if_neg h, BitVec.msb_eq_getLsbD_last, BitVec.getLsbD_signExtend]; simp [hi]
theorem b_i16 (x : Int32) {i : Nat} (hi : i < 32) : bt (Int16.toInt32 (Int32.toInt16 x)) i = if i < 16 then bt x i else bt x 15 := by
  unfold bt
  rw [Int16.toBitVec_toInt32, Int32.toBitVec_toInt16, BitVec.getLsbD_signExtend]
  by_cases h : i < 16
  · rw [if_pos h, BitVec.getLsbD_signExtend, if_pos hi]; simp [h, hi]
  · rw [if_neg h, if_neg h, BitVec.msb_eq_getLsbD_last, BitVec.getLsbD_signExtend]; simp [hi]
theorem i8_ext {x y : Int32} (h : ∀ i, i < 8 → bt x i = bt y i) : Int8.toInt32 (Int32.toInt8 x) = Int8.toInt32 (Int32.toInt8 y) := by
  apply b_ext
  intro i hi
  rw [b_i8 x hi, b_i8 y hi]
  by_cases h8 : i < 8
  · rw [if_pos h8, if_pos h8, h i h8]
  · rw [if_neg h8, if_neg h8, h 7 (by omega)]
theorem i8_i8 (x : Int32) : Int8.toInt32 (Int32.toInt8 (Int8.toInt32 (Int32.toInt8 x))) = Int8.toInt32 (Int32.toInt8 x) := i8_ext (fun i hi => by rw [b_i8 x (by omega), if_pos hi])
/-- a word out of its bytes -/
def v1 (y : Int32) : Int32 := ((0 : Int32) <<< ((8 : Int32) &&& 31)) ||| (y &&& 255)
def v2 (z y : Int32) : Int32 := (v1 z <<< ((8 : Int32) &&& 31)) ||| (y &&& 255)
def v3 (u z y : Int32) : Int32 := (v2 u z <<< ((8 : Int32) &&& 31)) ||| (y &&& 255)
def v4 (t u z y : Int32) : Int32 := (v3 t u z <<< ((8 : Int32) &&& 31)) ||| (y &&& 255)
theorem b_v1 (y : Int32) {i : Nat} (hi : i < 32) : bt (v1 y) i = if i < 8 then bt y i else false := by
  unfold v1
  rw [b_comb _ _ hi, b_0]
theorem b_v2 (z y : Int32) {i : Nat} (hi : i < 32) : bt (v2 z y) i = if i < 8 then bt y i else if i < 16 then bt z (i - 8) else false := by
  unfold v2
  rw [b_comb _ _ hi]
  by_cases h : i < 8
  · rw [if_pos h, if_pos h]
  · rw [if_neg h, if_neg h, b_v1 z (by omega)]
    by_cases h2 : i < 16
    · rw [if_pos h2, if_pos (by omega)]
    · rw [if_neg h2, if_neg (by omega)]
/-- a byte of a word -/
def byt (w : Int32) (i : Nat) : Int32 := Int8.toInt32 (Int32.toInt8 (w >>> (nI (8 * i) &&& 31)))
theorem byt_b (w : Int32) {i m : Nat} (hi : i < 4) (hm : m < 8) : bt (byt w i) m = bt w (8 * i + m) := by
  unfold byt
  rw [b_i8 _ (by omega), if_pos hm, b_sshr (8 * i) (by omega) w (by omega), if_pos (by omega)]
theorem v4_byt (w : Int32) : v4 (byt w 3) (byt w 2) (byt w 1) (byt w 0) = w := by
  apply b_ext
  intro i hi
  unfold v4
  rw [b_comb _ _ hi]
  by_cases h : i < 8
  · rw [if_pos h, byt_b w (by decide) h]; simp
  · rw [if_neg h]
    unfold v3
    rw [b_comb _ _ (by omega)]
    by_cases h2 : i - 8 < 8
    · rw [if_pos h2, byt_b w (by decide) h2]; congr 1; omega
    · rw [if_neg h2, b_v2 _ _ (by omega)]
      by_cases h3 : i - 8 - 8 < 8
      · rw [if_pos h3, byt_b w (by decide) h3]; congr 1; omega
      · rw [if_neg h3, if_pos (by omega), byt_b w (by decide) (by omega)]; congr 1; omega
/-- reading a part of a word: class's and reference's say the same -/
theorem rd_b (w : Int32) {i : Nat} (hi : i < 4) : Int8.toInt32 (Int32.toInt8 ((w.toUInt32 >>> ((nI (8 * i)).toUInt32 &&& Int32.toUInt32 31)).toInt32)) = (v1 (byt w i) <<< ((24 : Int32) &&& 31)) >>> ((24 : Int32) &&& 31) := by
  apply b_ext
  intro m hm
  rw [b_i8 _ hm, show ((24 : Int32) &&& 31) = (nI 24 &&& 31) from rfl, b_sshr 24 (by decide) _ hm, b_ushr (8 * i) (by omega), b_ushr (8 * i) (by omega)]
  by_cases h : m < 8
  · rw [if_pos h, if_pos (by omega), b_shl 24 (by decide) _ (by omega), show 24 + m - 24 = m by omega, b_v1 _ hm, if_pos h, byt_b w hi h]; simp
  · rw [if_neg h, if_neg (by omega), b_shl 24 (by decide) _ (by decide), b_v1 _ (by decide), if_pos (by decide), byt_b w hi (by decide)]; simp
theorem rd_bu (w : Int32) {i : Nat} (hi : i < 4) : ((w.toUInt32 >>> ((nI (8 * i)).toUInt32 &&& Int32.toUInt32 31)).toInt32) &&& 255 = v1 (byt w i) := by
  apply b_ext
  intro m hm
  rw [b_and, b_255, b_ushr (8 * i) (by omega), b_v1 _ hm]
  by_cases h : m < 8
  · rw [if_pos h, byt_b w hi h]; simp [h]
  · rw [if_neg h]; simp [h]
theorem rd_h (w : Int32) {i : Nat} (hi : i < 3) : Int16.toInt32 (Int32.toInt16 ((w.toUInt32 >>> ((nI (8 * i)).toUInt32 &&& Int32.toUInt32 31)).toInt32)) = (v2 (byt w (i + 1)) (byt w i) <<< ((16 : Int32) &&& 31)) >>> ((16 : Int32) &&& 31) := by
  have hv : ∀ m, m < 16 → bt (v2 (byt w (i + 1)) (byt w i)) m = bt w (8 * i + m) := fun m hm => by
    rw [b_v2 _ _ (by omega)]
    by_cases h : m < 8
    · rw [if_pos h, byt_b w (by omega) h]
    · rw [if_neg h, if_pos hm, byt_b w (by omega) (by omega)]; congr 1; omega
  apply b_ext
  intro m hm
  rw [b_i16 _ hm, show ((16 : Int32) &&& 31) = (nI 16 &&& 31) from rfl, b_sshr 16 (by decide) _ hm, b_ushr (8 * i) (by omega), b_ushr (8 * i) (by omega)]
  by_cases h : m < 16
  · rw [if_pos h, if_pos (by omega), b_shl 16 (by decide) _ (by omega), show 16 + m - 16 = m by omega, hv m h]; simp
  · rw [if_neg h, if_neg (by omega), b_shl 16 (by decide) _ (by decide), hv 15 (by decide)]; simp
theorem rd_hu (w : Int32) {i : Nat} (hi : i < 3) : ((w.toUInt32 >>> ((nI (8 * i)).toUInt32 &&& Int32.toUInt32 31)).toInt32) &&& 65535 = v2 (byt w (i + 1)) (byt w i) := by
  apply b_ext
  intro m hm
  rw [b_and, b_65535, b_ushr (8 * i) (by omega), b_v2 _ _ hm]
  by_cases h : m < 8
  · rw [if_pos h, byt_b w (by omega) h]; simp [show m < 16 by omega]
  · rw [if_neg h]
    by_cases h2 : m < 16
    · rw [if_pos h2, byt_b w (by omega) (by omega)]; simp [h2]; congr 1; omega
    · rw [if_neg h2]; simp [h2]
theorem rd_w (w : Int32) : ((w.toUInt32 >>> ((nI 0).toUInt32 &&& Int32.toUInt32 31)).toInt32) = w := by
  apply b_ext
  intro m hm
  rw [b_ushr 0 (by decide), Nat.zero_add]
/-- a word with n bytes from the i-th on written anew -/
theorem wr_b (w x mk : Int32) {i m n k : Nat} (hi : i < 4) (hmk : ∀ z, z < 32 → bt mk z = decide (8 * i ≤ z ∧ z < 8 * i + 8 * n)) (hk : k < 4) (hm : m < 8) : bt ((w &&& (mk ^^^ (-1))) ||| ((x <<< (nI (8 * i) &&& 31)) &&& mk)) (8 * k + m) = if i ≤ k ∧ k < i + n then bt x (8 * (k - i) + m) else bt w (8 * k + m) := by
  have hz : 8 * k + m < 32 := by omega
  rw [b_or, b_and, b_and, b_xor, b_m1 _ hz, hmk _ hz, b_shl (8 * i) (by omega) x hz]
  by_cases h : i ≤ k ∧ k < i + n
  · rw [if_pos h]
    have h1 : 8 * i ≤ 8 * k + m ∧ 8 * k + m < 8 * i + 8 * n := by omega
    have h2 : 8 * k + m - 8 * i = 8 * (k - i) + m := by omega
    simp [h1, h2]
  · rw [if_neg h]
    have h1 : ¬ (8 * i ≤ 8 * k + m ∧ 8 * k + m < 8 * i + 8 * n) := by omega
    simp [h1]
theorem mk_b (i n : Nat) (hi : i < 4) (c : Int32) (hc : ∀ z, z < 32 → bt c z = decide (z < 8 * n)) (hn : i + n ≤ 4) : ∀ z, z < 32 → bt (c <<< (nI (8 * i) &&& 31)) z = decide (8 * i ≤ z ∧ z < 8 * i + 8 * n) := by
  intro z hz
  rw [b_shl (8 * i) (by omega) c hz, hc _ (by omega)]
  by_cases h : 8 * i ≤ z
  · by_cases h2 : z < 8 * i + 8 * n
    · simp [h, h2, show z - 8 * i < 8 * n by omega]
    · simp [h, h2, show ¬ z - 8 * i < 8 * n by omega]
  · simp [h]
