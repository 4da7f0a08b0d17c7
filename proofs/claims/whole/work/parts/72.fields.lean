/-! An instruction's fields; unsigned comparison; what is reckoned. -/
theorem and_r (x : Int32) (m : Nat) (hm : m < 2 ^ 31) : ∃ r, r ≤ m ∧ x &&& nI m = nI r := by
  refine ⟨x.toBitVec.toNat &&& m, Nat.and_le_right, ?_⟩
  apply Int32.toBitVec_inj.mp
  rw [Int32.toBitVec_and]
  apply BitVec.eq_of_toNat_eq
  show (x.toBitVec &&& BitVec.ofNat 32 m).toNat = (BitVec.ofNat 32 (x.toBitVec.toNat &&& m)).toNat
  have h := Nat.and_le_right (n := x.toBitVec.toNat) (m := m)
  rw [BitVec.toNat_and, BitVec.toNat_ofNat, BitVec.toNat_ofNat, Nat.mod_eq_of_lt (show m < 2 ^ 32 by omega), Nat.mod_eq_of_lt (by omega)]
/-- a field of a word, as the class reads it -/
abbrev fd (w : Int32) (a m : Int32) : Int32 := (w >>> (a &&& 31)) &&& m
theorem fd_eq (w : Int32) (a n : Nat) (m : Int32) (han : a + n ≤ 32) (ha : a < 32) (hm : ∀ z, z < 32 → bt m z = decide (z < n)) : ((w.toUInt32 >>> ((nI a).toUInt32 &&& Int32.toUInt32 31)).toInt32) &&& m = fd w (nI a) m := by
  apply b_ext
  intro z hz
  rw [b_and, b_and, hm z hz, b_ushr a ha, b_sshr a ha w hz]
  by_cases h : z < n
  · rw [if_pos (by omega)]
  · simp [h]
theorem m1b : ∀ z, z < 32 → bt 1 z = decide (z < 1) := by decide +kernel
theorem m7b : ∀ z, z < 32 → bt 7 z = decide (z < 3) := by decide +kernel
theorem m15b : ∀ z, z < 32 → bt 15 z = decide (z < 4) := by decide +kernel
theorem m31b : ∀ z, z < 32 → bt 31 z = decide (z < 5) := by decide +kernel
theorem m63b : ∀ z, z < 32 → bt 63 z = decide (z < 6) := by decide +kernel
theorem m127b : ∀ z, z < 32 → bt 127 z = decide (z < 7) := by decide +kernel
theorem m255b : ∀ z, z < 32 → bt 255 z = decide (z < 8) := by decide +kernel
theorem m1023b : ∀ z, z < 32 → bt 1023 z = decide (z < 10) := by decide +kernel
section FIELDS
variable {d : Nat} {σ μ : mSg} {w x y f o v : Int32}
theorem S110 (a n : Nat) (m : Int32) (hm : ((1 : Int32) <<< (nI n &&& 31)) - 1 = m) (han : a + n ≤ 32) (ha : a < 32) (hb : ∀ z, z < 32 → bt m z = decide (z < n)) : Sp (d + 1) 110 [.inl w, .inl (nI a), .inl (nI n)] μ (.inl (some (.inl (fd w (nI a) m)))) μ := by
  rw [← fd_eq w a n m han ha hb, ← hm]
  exact P110_1
theorem B12 : Sp (d + 1) 110 [.inl w, .inl 12, .inl 3] μ (.inl (some (.inl (fd w 12 7)))) μ := S110 12 3 7 (by decide) (by decide) (by decide) m7b
theorem B15 : Sp (d + 1) 110 [.inl w, .inl 15, .inl 5] μ (.inl (some (.inl (fd w 15 31)))) μ := S110 15 5 31 (by decide) (by decide) (by decide) m31b
theorem B20 : Sp (d + 1) 110 [.inl w, .inl 20, .inl 5] μ (.inl (some (.inl (fd w 20 31)))) μ := S110 20 5 31 (by decide) (by decide) (by decide) m31b
theorem B7 : Sp (d + 1) 110 [.inl w, .inl 7, .inl 5] μ (.inl (some (.inl (fd w 7 31)))) μ := S110 7 5 31 (by decide) (by decide) (by decide) m31b
theorem B12_8 : Sp (d + 1) 110 [.inl w, .inl 12, .inl 8] μ (.inl (some (.inl (fd w 12 255)))) μ := S110 12 8 255 (by decide) (by decide) (by decide) m255b
theorem B20_1 : Sp (d + 1) 110 [.inl w, .inl 20, .inl 1] μ (.inl (some (.inl (fd w 20 1)))) μ := S110 20 1 1 (by decide) (by decide) (by decide) m1b
theorem B21_10 : Sp (d + 1) 110 [.inl w, .inl 21, .inl 10] μ (.inl (some (.inl (fd w 21 1023)))) μ := S110 21 10 1023 (by decide) (by decide) (by decide) m1023b
theorem B7_1 : Sp (d + 1) 110 [.inl w, .inl 7, .inl 1] μ (.inl (some (.inl (fd w 7 1)))) μ := S110 7 1 1 (by decide) (by decide) (by decide) m1b
theorem B25_6 : Sp (d + 1) 110 [.inl w, .inl 25, .inl 6] μ (.inl (some (.inl (fd w 25 63)))) μ := S110 25 6 63 (by decide) (by decide) (by decide) m63b
theorem B8_4 : Sp (d + 1) 110 [.inl w, .inl 8, .inl 4] μ (.inl (some (.inl (fd w 8 15)))) μ := S110 8 4 15 (by decide) (by decide) (by decide) m15b
/-- the seven high bits -/
def f7 (w : Int32) : Int32 := ((w.toUInt32 >>> ((25 : Int32).toUInt32 &&& Int32.toUInt32 31)).toInt32)
theorem B25 : Sp (d + 1) 110 [.inl w, .inl 25, .inl 7] μ (.inl (some (.inl (f7 w)))) μ := by
  have e : f7 w &&& 127 = f7 w := by
    apply b_ext
    intro z hz
    rw [b_and, m127b z hz]
    by_cases h : z < 7
    · simp [h]
    · rw [show bt (f7 w) z = bt w (25 + z) from b_ushr 25 (by decide) w z, b_big (by omega)]; rfl
  have h := P110_1 (d := d) (σ := μ) (x0 := w) (x1 := 25) (x2 := 7)
  rw [show ((1 : Int32) <<< ((7 : Int32) &&& 31)) - 1 = 127 by decide] at h
  rw [← e]
  exact h
theorem S62 : Sp (d + 1) 62 [.inl w] σ (.inl (some (.inl (f7 w)))) σ := P62_1
theorem S61 : Sp (d + 1) 61 [.inl w] σ (.inl (some (.inl (fd w 12 7)))) σ := P61_1
/-- below, as numbers without a sign -/
def blw (x y : Int32) : Bool := decide (x.toBitVec.toNat < y.toBitVec.toNat)
theorem blw_x : (x ^^^ (-2147483648)) < (y ^^^ (-2147483648)) ↔ blw x y = true := by
  have key : ∀ x : Int32, (x ^^^ (-2147483648)).toInt = (x.toBitVec.toNat : Int) - 2 ^ 31 := fun x => by
    have hx := x.toBitVec.isLt
    have e : (x ^^^ (-2147483648)).toBitVec = x.toBitVec + 2147483648#32 := by
      rw [Int32.toBitVec_xor, show (-2147483648 : Int32).toBitVec = 2147483648#32 from by decide]
      apply BitVec.eq_of_toNat_eq
      rw [BitVec.toNat_xor, BitVec.toNat_add]
      show x.toBitVec.toNat ^^^ 2147483648 = (x.toBitVec.toNat + 2147483648) % 4294967296
      generalize x.toBitVec.toNat = n at hx ⊢
      have hxor : ∀ m, m < 2 ^ 31 → m ^^^ 2147483648 = 2147483648 + m := fun m hm => by
        apply Nat.eq_of_testBit_eq
        intro i
        rw [Nat.testBit_xor, show 2147483648 = 2 ^ 31 from rfl, Nat.testBit_two_pow]
        rcases Nat.lt_trichotomy i 31 with z | z | z
        · rw [Nat.testBit_two_pow_add_gt z, decide_eq_false (by omega)]; simp
        · subst z; rw [Nat.testBit_two_pow_add_eq]; simp
        · have hp : 2 ^ 32 ≤ 2 ^ i := Nat.pow_le_pow_right (by decide) z
          rw [Nat.testBit_lt_two_pow (show m < 2 ^ i by omega), Nat.testBit_lt_two_pow (show 2 ^ 31 + m < 2 ^ i by omega), decide_eq_false (by omega)]; rfl
      rcases Nat.lt_or_ge n (2 ^ 31) with z | z
      · rw [hxor n z]; omega
      · obtain ⟨m, rfl⟩ : ∃ m, n = 2147483648 + m := ⟨n - 2147483648, by omega⟩
        rw [← hxor m (by omega), Nat.xor_assoc, Nat.xor_self, Nat.xor_zero, hxor m (by omega)]
        omega
    show (x ^^^ (-2147483648)).toBitVec.toInt = _
    rw [e, BitVec.toInt_eq_toNat_cond, BitVec.toNat_add]
    show (if 2 * ((x.toBitVec.toNat + 2147483648) % 4294967296) < 4294967296 then _ else _) = _
    show (if 2 * ((x.toBitVec.toNat + 2147483648) % 4294967296) < 4294967296 then (((x.toBitVec.toNat + 2147483648) % 4294967296 : Nat) : Int) else (((x.toBitVec.toNat + 2147483648) % 4294967296 : Nat) : Int) - (4294967296 : Nat)) = _
    split <;> omega
  rw [Int32.lt_iff_toInt_lt, key x, key y]
  unfold blw
  rw [decide_eq_true_eq]
  omega
theorem blw_l : lg_cmp (x.toInt64 &&& Int64.ofNat 4294967295) (y.toInt64 &&& Int64.ofNat 4294967295) < 0 ↔ blw x y = true := by
  have key : ∀ x : Int32, (x.toInt64 &&& Int64.ofNat 4294967295).toInt = (x.toBitVec.toNat : Int) := fun x => by
    have hx := x.toBitVec.isLt
    show (x.toInt64 &&& Int64.ofNat 4294967295).toBitVec.toInt = _
    have e : (x.toInt64 &&& Int64.ofNat 4294967295).toBitVec.toNat = x.toBitVec.toNat := by
      rw [Int64.toBitVec_and, Int32.toBitVec_toInt64, BitVec.toNat_and]
      show (x.toBitVec.signExtend 64).toNat &&& (2 ^ 32 - 1) = _
      rw [Nat.and_two_pow_sub_one_eq_mod]
      have e2 : ((x.toBitVec.signExtend 64).setWidth 32).toNat = x.toBitVec.toNat := by
        congr 1
        apply BitVec.eq_of_getLsbD_eq
        intro i hi
        rw [BitVec.getLsbD_setWidth, BitVec.getLsbD_signExtend, if_pos hi]
        simp [hi, show i < 64 by omega]
      rw [BitVec.toNat_setWidth] at e2
      exact e2
    rw [BitVec.toInt_eq_toNat_cond, e, if_pos (by omega)]
  have k1 := key x
  have k2 := key y
  unfold blw
  rw [decide_eq_true_eq]
  have h := lg_cmp_ge (x.toInt64 &&& Int64.ofNat 4294967295) (y.toInt64 &&& Int64.ofNat 4294967295)
  rw [Int64.le_iff_toInt_le, k1, k2] at h
  constructor
  · intro hl
    have h2 : ¬ (0 : Int32) ≤ lg_cmp (x.toInt64 &&& Int64.ofNat 4294967295) (y.toInt64 &&& Int64.ofNat 4294967295) := Int32.not_le.mpr hl
    rw [h] at h2
    omega
  · intro hl
    refine Int32.not_le.mp (fun h2 => ?_)
    rw [h] at h2
    omega
theorem S60 : Sp (d + 1) 60 [.inl x, .inl y] σ (.inl (some (.inl (if blw x y then 1 else 0)))) σ := by
  cases h : blw x y with
  | true => exact P60_1 (blw_x.mpr h)
  | false => exact P60_2 (fun c => by rw [blw_x.mp c] at h; cases h)
theorem S111 : Sp (d + 1) 111 [.inl x, .inl y] μ (.inl (some (.inl (if blw x y then 1 else 0)))) μ := by
  cases h : blw x y with
  | true => exact P111_1 (blw_l.mpr h)
  | false => exact P111_2 (fun c => by rw [blw_l.mp c] at h; cases h)
theorem and31 (y : Int32) : (y &&& 31) &&& 31 = y &&& 31 := by
  apply b_ext
  intro z hz
  rw [b_and, b_and, Bool.and_assoc, Bool.and_self]
theorem and31u (y : Int32) : (y &&& 31).toUInt32 &&& Int32.toUInt32 31 = y.toUInt32 &&& Int32.toUInt32 31 := by
  have h := and31 y
  have h2 := congrArg Int32.toUInt32 h
  exact h2
/-- what an instruction reckons -/
def rkv (f o x y : Int32) : Int32 := if f = 0 then (if o = 0 then x + y else x - y) else if f = 1 then x <<< (y &&& 31) else if f = 2 then (if x < y then 1 else 0) else if f = 3 then (if blw x y then 1 else 0) else if f = 4 then x ^^^ y else if f = 5 then (if o = 0 then ((x.toUInt32 >>> (y.toUInt32 &&& Int32.toUInt32 31)).toInt32) else x >>> (y &&& 31)) else if f = 6 then x ||| y else x &&& y
theorem S59 : Sp (d + 2) 59 [.inl f, .inl o, .inl x, .inl y] σ (.inl (some (.inl (rkv f o x y)))) σ := by
  unfold rkv
  by_cases h0 : f = 0
  · rw [if_pos h0]
    by_cases ho : o = 0
    · rw [if_pos ho]; exact P59_1 h0 ho
    · rw [if_neg ho]; exact P59_2 h0 ho
  · rw [if_neg h0]
    by_cases h1 : f = 1
    · rw [if_pos h1]; exact P59_3 h1
    · rw [if_neg h1]
      by_cases h2 : f = 2
      · rw [if_pos h2]
        by_cases hl : x < y
        · rw [if_pos hl]; exact P59_4 h2 hl
        · rw [if_neg hl]; exact P59_5 h2 hl
      · rw [if_neg h2]
        by_cases h3 : f = 3
        · rw [if_pos h3]
          have s := S60 (d := d) (x := x) (y := y) (σ := σ)
          cases hb : blw x y with
          | true => rw [hb] at s; exact P59_7 h3 s (by decide)
          | false => rw [hb] at s; exact P59_6 h3 s (by decide)
        · rw [if_neg h3]
          by_cases h4 : f = 4
          · rw [if_pos h4]; exact P59_8 h4
          · rw [if_neg h4]
            by_cases h5 : f = 5
            · rw [if_pos h5]
              by_cases ho : o = 0
              · rw [if_pos ho]; exact P59_9 h5 ho
              · rw [if_neg ho]; exact P59_10 h5 ho
            · rw [if_neg h5]
              by_cases h6 : f = 6
              · rw [if_pos h6]; exact P59_11 h6
              · rw [if_neg h6]; exact P59_12 h0 h1 h2 h3 h4 h5 h6
theorem S116 : Sp (d + 2) 116 [.inl f, .inl x, .inl y, .inl o] μ (.inl (some (.inl (rkv f o x y)))) μ := by
  unfold rkv
  by_cases h0 : f = 0
  · rw [if_pos h0]
    by_cases ho : o = 0
    · rw [if_pos ho]; exact P116_1 h0 ho
    · rw [if_neg ho]; exact P116_2 h0 ho
  · rw [if_neg h0]
    by_cases h1 : f = 1
    · rw [if_pos h1, ← and31 y]; exact P116_3 h1
    · rw [if_neg h1]
      by_cases h2 : f = 2
      · rw [if_pos h2]
        by_cases hl : x < y
        · rw [if_pos hl]; exact P116_4 h2 hl
        · rw [if_neg hl]; exact P116_5 h2 hl
      · rw [if_neg h2]
        by_cases h3 : f = 3
        · rw [if_pos h3]
          have s := S111 (d := d) (x := x) (y := y) (μ := μ)
          cases hb : blw x y with
          | true => rw [hb] at s; exact P116_7 h3 s (by decide)
          | false => rw [hb] at s; exact P116_6 h3 s (by decide)
        · rw [if_neg h3]
          by_cases h4 : f = 4
          · rw [if_pos h4]; exact P116_8 h4
          · rw [if_neg h4]
            by_cases h5 : f = 5
            · rw [if_pos h5]
              by_cases ho : o = 0
              · rw [if_pos ho, ← and31u y]; exact P116_9 h5 ho
              · rw [if_neg ho, ← and31 y]; exact P116_10 h5 ho
            · rw [if_neg h5]
              by_cases h6 : f = 6
              · rw [if_pos h6]; exact P116_11 h6
              · rw [if_neg h6]; exact P116_12 h0 h1 h2 h3 h4 h5 h6
end FIELDS
