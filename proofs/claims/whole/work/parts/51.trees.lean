/-! Trees of the methods, by program (wip/whole/tools/sx.py). -/
/-! PartitionKernel$Channel.open(ZIII)V -/
theorem T2 (F d r0 : Nat) (x1 x2 x3 x4 : Int32) (c : Nat → Nat) (σ : mSg) (τ : mLg) :
    pX F (d + 1) 2 [.inr (some (0, r0)), .inl x1, .inl x2, .inl x3, .inl x4] (c, σ, pr, τ) = pL F d 2 F 0 [(0, .inr (some (0, r0))), (1, .inl x1), (2, .inl x2), (3, .inl x3), (4, .inl x4)] [] (c, σ, pr, τ) := id rfl
theorem T2_0 (F d f r0 : Nat) (x1 x2 x3 x4 : Int32) (c : Nat → Nat) (σ : mSg) (τ : mLg) :
    pL F d 2 (f + 13) 0 [(0, .inr (some (0, r0))), (1, .inl x1), (2, .inl x2), (3, .inl x3), (4, .inl x4)] [] (c, σ, pr, τ) = (if x1 = 0 ∨ x1 = 1 then some (.inl (none), (c, (mq_up (mq_up (mq_up (mq_up σ 0 r0 1 x1) 0 r0 2 x2) 0 r0 3 x3) 0 r0 4 x4), pr, τ)) else none) := id rfl
/-! PartitionKernel$Channel.put(II)I -/
theorem T3 (F d r0 : Nat) (x1 x2 : Int32) (c : Nat → Nat) (σ : mSg) (τ : mLg) :
    pX F (d + 1) 3 [.inr (some (0, r0)), .inl x1, .inl x2] (c, σ, pr, τ) = pL F d 3 F 0 [(0, .inr (some (0, r0))), (1, .inl x1), (2, .inl x2)] [] (c, σ, pr, τ) := id rfl
theorem T3_0 (F d f r0 : Nat) (x1 x2 : Int32) (c : Nat → Nat) (σ : mSg) (τ : mLg) :
    pL F d 3 (f + 3) 0 [(0, .inr (some (0, r0))), (1, .inl x1), (2, .inl x2)] [] (c, σ, pr, τ) = (if (σ 0 r0 1) = 0 then pL F d 3 f 7 [(0, .inr (some (0, r0))), (1, .inl x1), (2, .inl x2)] [] (c, σ, pr, τ) else pL F d 3 f 26 [(0, .inr (some (0, r0))), (1, .inl x1), (2, .inl x2)] [] (c, σ, pr, τ)) := id rfl
theorem T3_7 (F d f r0 : Nat) (x1 x2 : Int32) (c : Nat → Nat) (σ : mSg) (τ : mLg) :
    pL F d 3 (f + 13) 7 [(0, .inr (some (0, r0))), (1, .inl x1), (2, .inl x2)] [] (c, σ, pr, τ) = some (.inl (some (.inl 0)), (c, (mq_up (mq_up (mq_up σ 11 (2 + r0) (Int32.toNatClampNeg 0) x1) 0 r0 6 1) 0 r0 7 x2), pr, τ)) := id rfl
theorem T3_26 (F d f r0 : Nat) (x1 x2 : Int32) (c : Nat → Nat) (σ : mSg) (τ : mLg) :
    pL F d 3 (f + 5) 26 [(0, .inr (some (0, r0))), (1, .inl x1), (2, .inl x2)] [] (c, σ, pr, τ) = (if (σ 0 r0 6) < (σ 0 r0 4) then pL F d 3 f 39 [(0, .inr (some (0, r0))), (1, .inl x1), (2, .inl x2)] [] (c, σ, pr, τ) else pL F d 3 f 37 [(0, .inr (some (0, r0))), (1, .inl x1), (2, .inl x2)] [] (c, σ, pr, τ)) := id rfl
theorem T3_39 (F d f r0 : Nat) (x1 x2 : Int32) (c : Nat → Nat) (σ : mSg) (τ : mLg) :
    pL F d 3 (f + 6) 39 [(0, .inr (some (0, r0))), (1, .inl x1), (2, .inl x2)] [] (c, σ, pr, τ) = mq_kv (pX F d 7 [.inr (some (0, r0)), .inl (σ 0 r0 6)] (c, σ, pr, τ)) (fun w M => pL F d 3 f 51 [(0, .inr (some (0, r0))), (1, .inl x1), (2, .inl x2)] (mq_psh w [.inr (.inl (some (11, (2 + r0))))]) M) := id rfl
theorem T3_37 (F d f r0 : Nat) (x1 x2 : Int32) (c : Nat → Nat) (σ : mSg) (τ : mLg) :
    pL F d 3 (f + 2) 37 [(0, .inr (some (0, r0))), (1, .inl x1), (2, .inl x2)] [] (c, σ, pr, τ) = some (.inl (some (.inl 2)), (c, σ, pr, τ)) := id rfl
theorem T3_51 (F d f r0 r_1 : Nat) (x1 x2 x_0 : Int32) (c : Nat → Nat) (σ : mSg) (τ : mLg) :
    pL F d 3 (f + 10) 51 [(0, .inr (some (0, r0))), (1, .inl x1), (2, .inl x2)] [.inl x_0, .inr (.inl (some (11, r_1)))] (c, σ, pr, τ) = (if x_0 < 0 ∨ 8 ≤ Int32.toNatClampNeg x_0 then none else some (.inl (some (.inl 0)), (c, (mq_up (mq_up σ 11 r_1 (Int32.toNatClampNeg x_0) x1) 0 r0 6 (((mq_up σ 11 r_1 (Int32.toNatClampNeg x_0) x1) 0 r0 6) + 1)), pr, τ))) := id rfl
/-! PartitionKernel$Channel.taken(I)I -/
theorem T4 (F d r0 : Nat) (x1 : Int32) (c : Nat → Nat) (σ : mSg) (τ : mLg) :
    pX F (d + 1) 4 [.inr (some (0, r0)), .inl x1] (c, σ, pr, τ) = pL F d 4 F 0 [(0, .inr (some (0, r0))), (1, .inl x1)] [] (c, σ, pr, τ) := id rfl
theorem T4_0 (F d f r0 : Nat) (x1 : Int32) (c : Nat → Nat) (σ : mSg) (τ : mLg) :
    pL F d 4 (f + 3) 0 [(0, .inr (some (0, r0))), (1, .inl x1)] [] (c, σ, pr, τ) = (if (σ 0 r0 1) = 0 then pL F d 4 f 7 [(0, .inr (some (0, r0))), (1, .inl x1)] [] (c, σ, pr, τ) else pL F d 4 f 26 [(0, .inr (some (0, r0))), (1, .inl x1)] [] (c, σ, pr, τ)) := id rfl
theorem T4_7 (F d f r0 : Nat) (x1 : Int32) (c : Nat → Nat) (σ : mSg) (τ : mLg) :
    pL F d 4 (f + 7) 7 [(0, .inr (some (0, r0))), (1, .inl x1)] [] (c, σ, pr, τ) = (if (σ 0 r0 4) < (x1 - (σ 0 r0 7)) then pL F d 4 f 24 [(0, .inr (some (0, r0))), (1, .inl x1)] [] (c, σ, pr, τ) else pL F d 4 f 20 [(0, .inr (some (0, r0))), (1, .inl x1)] [] (c, σ, pr, τ)) := id rfl
theorem T4_26 (F d f r0 : Nat) (x1 : Int32) (c : Nat → Nat) (σ : mSg) (τ : mLg) :
    pL F d 4 (f + 4) 26 [(0, .inr (some (0, r0))), (1, .inl x1)] [] (c, σ, pr, τ) = mq_kv (pX F d 7 [.inr (some (0, r0)), .inl 1] (c, σ, pr, τ)) (fun w M => pL F d 4 f 32 [(0, .inr (some (0, r0))), (1, .inl x1)] (mq_psh w [.inr (.inl (some (0, r0)))]) M) := id rfl
theorem T4_24 (F d f r0 : Nat) (x1 : Int32) (c : Nat → Nat) (σ : mSg) (τ : mLg) :
    pL F d 4 (f + 2) 24 [(0, .inr (some (0, r0))), (1, .inl x1)] [] (c, σ, pr, τ) = some (.inl (some (.inl 3)), (c, σ, pr, τ)) := id rfl
theorem T4_20 (F d f r0 : Nat) (x1 : Int32) (c : Nat → Nat) (σ : mSg) (τ : mLg) :
    pL F d 4 (f + 3) 20 [(0, .inr (some (0, r0))), (1, .inl x1)] [] (c, σ, pr, τ) = some (.inl (some (.inl 0)), (c, σ, pr, τ)) := id rfl
theorem T4_32 (F d f r0 r_1 : Nat) (x1 x_0 : Int32) (c : Nat → Nat) (σ : mSg) (τ : mLg) :
    pL F d 4 (f + 9) 32 [(0, .inr (some (0, r0))), (1, .inl x1)] [.inl x_0, .inr (.inl (some (0, r_1)))] (c, σ, pr, τ) = some (.inl (some (.inl 0)), (c, (mq_up (mq_up σ 0 r_1 5 x_0) 0 r0 6 (((mq_up σ 0 r_1 5 x_0) 0 r0 6) - 1)), pr, τ)) := id rfl
/-! PartitionKernel$Channel.wordAt(I)I -/
theorem T5 (F d r0 : Nat) (x1 : Int32) (c : Nat → Nat) (σ : mSg) (τ : mLg) :
    pX F (d + 1) 5 [.inr (some (0, r0)), .inl x1] (c, σ, pr, τ) = pL F d 5 F 0 [(0, .inr (some (0, r0))), (1, .inl x1)] [] (c, σ, pr, τ) := id rfl
theorem T5_0 (F d f r0 : Nat) (x1 : Int32) (c : Nat → Nat) (σ : mSg) (τ : mLg) :
    pL F d 5 (f + 2) 0 [(0, .inr (some (0, r0))), (1, .inl x1)] [] (c, σ, pr, τ) = (if x1 < 0 then pL F d 5 f 25 [(0, .inr (some (0, r0))), (1, .inl x1)] [] (c, σ, pr, τ) else pL F d 5 f 4 [(0, .inr (some (0, r0))), (1, .inl x1)] [] (c, σ, pr, τ)) := id rfl
theorem T5_25 (F d f r0 : Nat) (x1 : Int32) (c : Nat → Nat) (σ : mSg) (τ : mLg) :
    pL F d 5 (f + 2) 25 [(0, .inr (some (0, r0))), (1, .inl x1)] [] (c, σ, pr, τ) = some (.inl (some (.inl 0)), (c, σ, pr, τ)) := id rfl
theorem T5_4 (F d f r0 : Nat) (x1 : Int32) (c : Nat → Nat) (σ : mSg) (τ : mLg) :
    pL F d 5 (f + 4) 4 [(0, .inr (some (0, r0))), (1, .inl x1)] [] (c, σ, pr, τ) = (if x1 < (σ 0 r0 6) then pL F d 5 f 12 [(0, .inr (some (0, r0))), (1, .inl x1)] [] (c, σ, pr, τ) else pL F d 5 f 25 [(0, .inr (some (0, r0))), (1, .inl x1)] [] (c, σ, pr, τ)) := id rfl
theorem T5_12 (F d f r0 : Nat) (x1 : Int32) (c : Nat → Nat) (σ : mSg) (τ : mLg) :
    pL F d 5 (f + 5) 12 [(0, .inr (some (0, r0))), (1, .inl x1)] [] (c, σ, pr, τ) = mq_kv (pX F d 7 [.inr (some (0, r0)), .inl x1] (c, σ, pr, τ)) (fun w M => pL F d 5 f 21 [(0, .inr (some (0, r0))), (1, .inl x1)] (mq_psh w [.inr (.inl (some (11, (2 + r0))))]) M) := id rfl
theorem T5_21 (F d f r0 r_1 : Nat) (x1 x_0 : Int32) (c : Nat → Nat) (σ : mSg) (τ : mLg) :
    pL F d 5 (f + 3) 21 [(0, .inr (some (0, r0))), (1, .inl x1)] [.inl x_0, .inr (.inl (some (11, r_1)))] (c, σ, pr, τ) = (if x_0 < 0 ∨ 8 ≤ Int32.toNatClampNeg x_0 then none else some (.inl (some (.inl (σ 11 r_1 (Int32.toNatClampNeg x_0)))), (c, σ, pr, τ))) := id rfl
/-! PartitionKernel$Channel.tell(I)I -/
theorem T6 (F d r0 : Nat) (x1 : Int32) (c : Nat → Nat) (σ : mSg) (τ : mLg) :
    pX F (d + 1) 6 [.inr (some (0, r0)), .inl x1] (c, σ, pr, τ) = pL F d 6 F 0 [(0, .inr (some (0, r0))), (1, .inl x1)] [] (c, σ, pr, τ) := id rfl
theorem T6_0 (F d f r0 : Nat) (x1 : Int32) (c : Nat → Nat) (σ : mSg) (τ : mLg) :
    pL F d 6 (f + 2) 0 [(0, .inr (some (0, r0))), (1, .inl x1)] [] (c, σ, pr, τ) = pL F d 6 f (mq_swt x1 38 [(0, 28), (1, 33)]) [(0, .inr (some (0, r0))), (1, .inl x1)] [] (c, σ, pr, τ) := id rfl
theorem T6_28 (F d f r0 : Nat) (x1 : Int32) (c : Nat → Nat) (σ : mSg) (τ : mLg) :
    pL F d 6 (f + 3) 28 [(0, .inr (some (0, r0))), (1, .inl x1)] [] (c, σ, pr, τ) = some (.inl (some (.inl (σ 0 r0 6))), (c, σ, pr, τ)) := id rfl
theorem T6_33 (F d f r0 : Nat) (x1 : Int32) (c : Nat → Nat) (σ : mSg) (τ : mLg) :
    pL F d 6 (f + 3) 33 [(0, .inr (some (0, r0))), (1, .inl x1)] [] (c, σ, pr, τ) = some (.inl (some (.inl (σ 0 r0 7))), (c, σ, pr, τ)) := id rfl
theorem T6_38 (F d f r0 : Nat) (x1 : Int32) (c : Nat → Nat) (σ : mSg) (τ : mLg) :
    pL F d 6 (f + 2) 38 [(0, .inr (some (0, r0))), (1, .inl x1)] [] (c, σ, pr, τ) = some (.inl (some (.inl (-1))), (c, σ, pr, τ)) := id rfl
/-! PartitionKernel$Channel.placeOf(I)I -/
theorem T7 (F d r0 : Nat) (x1 : Int32) (c : Nat → Nat) (σ : mSg) (τ : mLg) :
    pX F (d + 1) 7 [.inr (some (0, r0)), .inl x1] (c, σ, pr, τ) = pL F d 7 F 0 [(0, .inr (some (0, r0))), (1, .inl x1)] [] (c, σ, pr, τ) := id rfl
theorem T7_0 (F d f r0 : Nat) (x1 : Int32) (c : Nat → Nat) (σ : mSg) (τ : mLg) :
    pL F d 7 (f + 7) 0 [(0, .inr (some (0, r0))), (1, .inl x1)] [] (c, σ, pr, τ) = some (.inl (some (.inl (((σ 0 r0 5) + x1) &&& 7))), (c, σ, pr, τ)) := id rfl
/-! PartitionKernel$ErrorLog.note(IIII)V -/
theorem T9 (F d : Nat) (x1 x2 x3 x4 : Int32) (c : Nat → Nat) (σ : mSg) (τ : mLg) :
    pX F (d + 1) 9 [.inr (some (1, 0)), .inl x1, .inl x2, .inl x3, .inl x4] (c, σ, pr, τ) = pL F d 9 F 0 [(0, .inr (some (1, 0))), (1, .inl x1), (2, .inl x2), (3, .inl x3), (4, .inl x4)] [] (c, σ, pr, τ) := id rfl
theorem T9_0 (F d f : Nat) (x1 x2 x3 x4 : Int32) (c : Nat → Nat) (σ : mSg) (τ : mLg) :
    pL F d 9 (f + 31) 0 [(0, .inr (some (1, 0))), (1, .inl x1), (2, .inl x2), (3, .inl x3), (4, .inl x4)] [] (c, σ, pr, τ) = (if (σ 1 0 6) < 0 ∨ 64 ≤ Int32.toNatClampNeg (σ 1 0 6) then none else (if ((mq_up σ 14 0 (Int32.toNatClampNeg (σ 1 0 6)) x1) 1 0 6) < 0 ∨ 64 ≤ Int32.toNatClampNeg ((mq_up σ 14 0 (Int32.toNatClampNeg (σ 1 0 6)) x1) 1 0 6) then none else (if ((mq_up (mq_up σ 14 0 (Int32.toNatClampNeg (σ 1 0 6)) x1) 14 1 (Int32.toNatClampNeg ((mq_up σ 14 0 (Int32.toNatClampNeg (σ 1 0 6)) x1) 1 0 6)) x2) 1 0 6) < 0 ∨ 64 ≤ Int32.toNatClampNeg ((mq_up (mq_up σ 14 0 (Int32.toNatClampNeg (σ 1 0 6)) x1) 14 1 (Int32.toNatClampNeg ((mq_up σ 14 0 (Int32.toNatClampNeg (σ 1 0 6)) x1) 1 0 6)) x2) 1 0 6) then none else (if ((mq_up (mq_up (mq_up σ 14 0 (Int32.toNatClampNeg (σ 1 0 6)) x1) 14 1 (Int32.toNatClampNeg ((mq_up σ 14 0 (Int32.toNatClampNeg (σ 1 0 6)) x1) 1 0 6)) x2) 14 2 (Int32.toNatClampNeg ((mq_up (mq_up σ 14 0 (Int32.toNatClampNeg (σ 1 0 6)) x1) 14 1 (Int32.toNatClampNeg ((mq_up σ 14 0 (Int32.toNatClampNeg (σ 1 0 6)) x1) 1 0 6)) x2) 1 0 6)) x3) 1 0 6) < 0 ∨ 64 ≤ Int32.toNatClampNeg ((mq_up (mq_up (mq_up σ 14 0 (Int32.toNatClampNeg (σ 1 0 6)) x1) 14 1 (Int32.toNatClampNeg ((mq_up σ 14 0 (Int32.toNatClampNeg (σ 1 0 6)) x1) 1 0 6)) x2) 14 2 (Int32.toNatClampNeg ((mq_up (mq_up σ 14 0 (Int32.toNatClampNeg (σ 1 0 6)) x1) 14 1 (Int32.toNatClampNeg ((mq_up σ 14 0 (Int32.toNatClampNeg (σ 1 0 6)) x1) 1 0 6)) x2) 1 0 6)) x3) 1 0 6) then none else (if (((mq_up (mq_up (mq_up (mq_up σ 14 0 (Int32.toNatClampNeg (σ 1 0 6)) x1) 14 1 (Int32.toNatClampNeg ((mq_up σ 14 0 (Int32.toNatClampNeg (σ 1 0 6)) x1) 1 0 6)) x2) 14 2 (Int32.toNatClampNeg ((mq_up (mq_up σ 14 0 (Int32.toNatClampNeg (σ 1 0 6)) x1) 14 1 (Int32.toNatClampNeg ((mq_up σ 14 0 (Int32.toNatClampNeg (σ 1 0 6)) x1) 1 0 6)) x2) 1 0 6)) x3) 14 3 (Int32.toNatClampNeg ((mq_up (mq_up (mq_up σ 14 0 (Int32.toNatClampNeg (σ 1 0 6)) x1) 14 1 (Int32.toNatClampNeg ((mq_up σ 14 0 (Int32.toNatClampNeg (σ 1 0 6)) x1) 1 0 6)) x2) 14 2 (Int32.toNatClampNeg ((mq_up (mq_up σ 14 0 (Int32.toNatClampNeg (σ 1 0 6)) x1) 14 1 (Int32.toNatClampNeg ((mq_up σ 14 0 (Int32.toNatClampNeg (σ 1 0 6)) x1) 1 0 6)) x2) 1 0 6)) x3) 1 0 6)) x4) 1 0 6) + 1) < 64 then pL F d 9 f 53 [(0, .inr (some (1, 0))), (1, .inl x1), (2, .inl x2), (3, .inl x3), (4, .inl x4)] [.inr (.inl (some (1, 0)))] (c, (mq_up (mq_up (mq_up (mq_up σ 14 0 (Int32.toNatClampNeg (σ 1 0 6)) x1) 14 1 (Int32.toNatClampNeg ((mq_up σ 14 0 (Int32.toNatClampNeg (σ 1 0 6)) x1) 1 0 6)) x2) 14 2 (Int32.toNatClampNeg ((mq_up (mq_up σ 14 0 (Int32.toNatClampNeg (σ 1 0 6)) x1) 14 1 (Int32.toNatClampNeg ((mq_up σ 14 0 (Int32.toNatClampNeg (σ 1 0 6)) x1) 1 0 6)) x2) 1 0 6)) x3) 14 3 (Int32.toNatClampNeg ((mq_up (mq_up (mq_up σ 14 0 (Int32.toNatClampNeg (σ 1 0 6)) x1) 14 1 (Int32.toNatClampNeg ((mq_up σ 14 0 (Int32.toNatClampNeg (σ 1 0 6)) x1) 1 0 6)) x2) 14 2 (Int32.toNatClampNeg ((mq_up (mq_up σ 14 0 (Int32.toNatClampNeg (σ 1 0 6)) x1) 14 1 (Int32.toNatClampNeg ((mq_up σ 14 0 (Int32.toNatClampNeg (σ 1 0 6)) x1) 1 0 6)) x2) 1 0 6)) x3) 1 0 6)) x4), pr, τ) else pL F d 9 f 62 [(0, .inr (some (1, 0))), (1, .inl x1), (2, .inl x2), (3, .inl x3), (4, .inl x4)] [.inr (.inl (some (1, 0)))] (c, (mq_up (mq_up (mq_up (mq_up σ 14 0 (Int32.toNatClampNeg (σ 1 0 6)) x1) 14 1 (Int32.toNatClampNeg ((mq_up σ 14 0 (Int32.toNatClampNeg (σ 1 0 6)) x1) 1 0 6)) x2) 14 2 (Int32.toNatClampNeg ((mq_up (mq_up σ 14 0 (Int32.toNatClampNeg (σ 1 0 6)) x1) 14 1 (Int32.toNatClampNeg ((mq_up σ 14 0 (Int32.toNatClampNeg (σ 1 0 6)) x1) 1 0 6)) x2) 1 0 6)) x3) 14 3 (Int32.toNatClampNeg ((mq_up (mq_up (mq_up σ 14 0 (Int32.toNatClampNeg (σ 1 0 6)) x1) 14 1 (Int32.toNatClampNeg ((mq_up σ 14 0 (Int32.toNatClampNeg (σ 1 0 6)) x1) 1 0 6)) x2) 14 2 (Int32.toNatClampNeg ((mq_up (mq_up σ 14 0 (Int32.toNatClampNeg (σ 1 0 6)) x1) 14 1 (Int32.toNatClampNeg ((mq_up σ 14 0 (Int32.toNatClampNeg (σ 1 0 6)) x1) 1 0 6)) x2) 1 0 6)) x3) 1 0 6)) x4), pr, τ)))))) := id rfl
theorem T9_53 (F d f : Nat) (x1 x2 x3 x4 : Int32) (c : Nat → Nat) (σ : mSg) (τ : mLg) :
    pL F d 9 (f + 21) 53 [(0, .inr (some (1, 0))), (1, .inl x1), (2, .inl x2), (3, .inl x3), (4, .inl x4)] [.inr (.inl (some (1, 0)))] (c, σ, pr, τ) = some (.inl (none), (c, (mq_up (mq_up (mq_up σ 1 0 6 ((σ 1 0 6) + 1)) 1 0 5 (if 64 < (((mq_up σ 1 0 6 ((σ 1 0 6) + 1)) 1 0 5) + 1) then 64 else (((mq_up σ 1 0 6 ((σ 1 0 6) + 1)) 1 0 5) + 1))) 1 0 4 (((mq_up (mq_up σ 1 0 6 ((σ 1 0 6) + 1)) 1 0 5 (if 64 < (((mq_up σ 1 0 6 ((σ 1 0 6) + 1)) 1 0 5) + 1) then 64 else (((mq_up σ 1 0 6 ((σ 1 0 6) + 1)) 1 0 5) + 1))) 1 0 4) + 1)), pr, τ)) := id rfl
theorem T9_62 (F d f : Nat) (x1 x2 x3 x4 : Int32) (c : Nat → Nat) (σ : mSg) (τ : mLg) :
    pL F d 9 (f + 17) 62 [(0, .inr (some (1, 0))), (1, .inl x1), (2, .inl x2), (3, .inl x3), (4, .inl x4)] [.inr (.inl (some (1, 0)))] (c, σ, pr, τ) = some (.inl (none), (c, (mq_up (mq_up (mq_up σ 1 0 6 0) 1 0 5 (if 64 < (((mq_up σ 1 0 6 0) 1 0 5) + 1) then 64 else (((mq_up σ 1 0 6 0) 1 0 5) + 1))) 1 0 4 (((mq_up (mq_up σ 1 0 6 0) 1 0 5 (if 64 < (((mq_up σ 1 0 6 0) 1 0 5) + 1) then 64 else (((mq_up σ 1 0 6 0) 1 0 5) + 1))) 1 0 4) + 1)), pr, τ)) := id rfl
/-! PartitionKernel$ErrorLog.tell(II)I -/
theorem T10 (F d : Nat) (x1 x2 : Int32) (c : Nat → Nat) (σ : mSg) (τ : mLg) :
    pX F (d + 1) 10 [.inr (some (1, 0)), .inl x1, .inl x2] (c, σ, pr, τ) = pL F d 10 F 0 [(0, .inr (some (1, 0))), (1, .inl x1), (2, .inl x2)] [] (c, σ, pr, τ) := id rfl
theorem T10_0 (F d f : Nat) (x1 x2 : Int32) (c : Nat → Nat) (σ : mSg) (τ : mLg) :
    pL F d 10 (f + 2) 0 [(0, .inr (some (1, 0))), (1, .inl x1), (2, .inl x2)] [] (c, σ, pr, τ) = (if x1 < 0 then pL F d 10 f 12 [(0, .inr (some (1, 0))), (1, .inl x1), (2, .inl x2)] [] (c, σ, pr, τ) else pL F d 10 f 4 [(0, .inr (some (1, 0))), (1, .inl x1), (2, .inl x2)] [] (c, σ, pr, τ)) := id rfl
theorem T10_12 (F d f : Nat) (x1 x2 : Int32) (c : Nat → Nat) (σ : mSg) (τ : mLg) :
    pL F d 10 (f + 2) 12 [(0, .inr (some (1, 0))), (1, .inl x1), (2, .inl x2)] [] (c, σ, pr, τ) = some (.inl (some (.inl (-1))), (c, σ, pr, τ)) := id rfl
theorem T10_4 (F d f : Nat) (x1 x2 : Int32) (c : Nat → Nat) (σ : mSg) (τ : mLg) :
    pL F d 10 (f + 4) 4 [(0, .inr (some (1, 0))), (1, .inl x1), (2, .inl x2)] [] (c, σ, pr, τ) = (if x1 < (σ 1 0 5) then pL F d 10 f 14 [(0, .inr (some (1, 0))), (1, .inl x1), (2, .inl x2)] [] (c, σ, pr, τ) else pL F d 10 f 12 [(0, .inr (some (1, 0))), (1, .inl x1), (2, .inl x2)] [] (c, σ, pr, τ)) := id rfl
theorem T10_14 (F d f : Nat) (x1 x2 : Int32) (c : Nat → Nat) (σ : mSg) (τ : mLg) :
    pL F d 10 (f + 9) 14 [(0, .inr (some (1, 0))), (1, .inl x1), (2, .inl x2)] [] (c, σ, pr, τ) = (if (((σ 1 0 6) - 1) - x1) < 0 then pL F d 10 f 27 [(0, .inr (some (1, 0))), (1, .inl x1), (2, .inl x2), (3, .inl (((σ 1 0 6) - 1) - x1))] [] (c, σ, pr, τ) else pL F d 10 f 30 [(0, .inr (some (1, 0))), (1, .inl x1), (2, .inl x2), (3, .inl (((σ 1 0 6) - 1) - x1))] [] (c, σ, pr, τ)) := id rfl
theorem T10_27 (F d f : Nat) (x1 x2 x3 : Int32) (c : Nat → Nat) (σ : mSg) (τ : mLg) :
    pL F d 10 (f + 3) 27 [(0, .inr (some (1, 0))), (1, .inl x1), (2, .inl x2), (3, .inl x3)] [] (c, σ, pr, τ) = pL F d 10 f (mq_swt x2 88 [(0, 60), (1, 67), (2, 74), (3, 81)]) [(0, .inr (some (1, 0))), (1, .inl x1), (2, .inl x2), (3, .inl (x3 + 64))] [] (c, σ, pr, τ) := id rfl
theorem T10_30 (F d f : Nat) (x1 x2 x3 : Int32) (c : Nat → Nat) (σ : mSg) (τ : mLg) :
    pL F d 10 (f + 2) 30 [(0, .inr (some (1, 0))), (1, .inl x1), (2, .inl x2), (3, .inl x3)] [] (c, σ, pr, τ) = pL F d 10 f (mq_swt x2 88 [(0, 60), (1, 67), (2, 74), (3, 81)]) [(0, .inr (some (1, 0))), (1, .inl x1), (2, .inl x2), (3, .inl x3)] [] (c, σ, pr, τ) := id rfl
theorem T10_60 (F d f : Nat) (x1 x2 x3 : Int32) (c : Nat → Nat) (σ : mSg) (τ : mLg) :
    pL F d 10 (f + 5) 60 [(0, .inr (some (1, 0))), (1, .inl x1), (2, .inl x2), (3, .inl x3)] [] (c, σ, pr, τ) = (if x3 < 0 ∨ 64 ≤ Int32.toNatClampNeg x3 then none else some (.inl (some (.inl (σ 14 0 (Int32.toNatClampNeg x3)))), (c, σ, pr, τ))) := id rfl
theorem T10_67 (F d f : Nat) (x1 x2 x3 : Int32) (c : Nat → Nat) (σ : mSg) (τ : mLg) :
    pL F d 10 (f + 5) 67 [(0, .inr (some (1, 0))), (1, .inl x1), (2, .inl x2), (3, .inl x3)] [] (c, σ, pr, τ) = (if x3 < 0 ∨ 64 ≤ Int32.toNatClampNeg x3 then none else some (.inl (some (.inl (σ 14 1 (Int32.toNatClampNeg x3)))), (c, σ, pr, τ))) := id rfl
theorem T10_74 (F d f : Nat) (x1 x2 x3 : Int32) (c : Nat → Nat) (σ : mSg) (τ : mLg) :
    pL F d 10 (f + 5) 74 [(0, .inr (some (1, 0))), (1, .inl x1), (2, .inl x2), (3, .inl x3)] [] (c, σ, pr, τ) = (if x3 < 0 ∨ 64 ≤ Int32.toNatClampNeg x3 then none else some (.inl (some (.inl (σ 14 2 (Int32.toNatClampNeg x3)))), (c, σ, pr, τ))) := id rfl
theorem T10_81 (F d f : Nat) (x1 x2 x3 : Int32) (c : Nat → Nat) (σ : mSg) (τ : mLg) :
    pL F d 10 (f + 5) 81 [(0, .inr (some (1, 0))), (1, .inl x1), (2, .inl x2), (3, .inl x3)] [] (c, σ, pr, τ) = (if x3 < 0 ∨ 64 ≤ Int32.toNatClampNeg x3 then none else some (.inl (some (.inl (σ 14 3 (Int32.toNatClampNeg x3)))), (c, σ, pr, τ))) := id rfl
theorem T10_88 (F d f : Nat) (x1 x2 x3 : Int32) (c : Nat → Nat) (σ : mSg) (τ : mLg) :
    pL F d 10 (f + 2) 88 [(0, .inr (some (1, 0))), (1, .inl x1), (2, .inl x2), (3, .inl x3)] [] (c, σ, pr, τ) = some (.inl (some (.inl (-1))), (c, σ, pr, τ)) := id rfl
/-! PartitionKernel$Frame.add(II)Z -/
theorem T12 (F d : Nat) (x1 x2 : Int32) (c : Nat → Nat) (σ : mSg) (τ : mLg) :
    pX F (d + 1) 12 [.inr (some (2, 0)), .inl x1, .inl x2] (c, σ, pr, τ) = pL F d 12 F 0 [(0, .inr (some (2, 0))), (1, .inl x1), (2, .inl x2)] [] (c, σ, pr, τ) := id rfl
theorem T12_0 (F d f : Nat) (x1 x2 : Int32) (c : Nat → Nat) (σ : mSg) (τ : mLg) :
    pL F d 12 (f + 4) 0 [(0, .inr (some (2, 0))), (1, .inl x1), (2, .inl x2)] [] (c, σ, pr, τ) = (if (σ 2 0 2) < 8 then pL F d 12 f 11 [(0, .inr (some (2, 0))), (1, .inl x1), (2, .inl x2)] [] (c, σ, pr, τ) else pL F d 12 f 9 [(0, .inr (some (2, 0))), (1, .inl x1), (2, .inl x2)] [] (c, σ, pr, τ)) := id rfl
theorem T12_11 (F d f : Nat) (x1 x2 : Int32) (c : Nat → Nat) (σ : mSg) (τ : mLg) :
    pL F d 12 (f + 20) 11 [(0, .inr (some (2, 0))), (1, .inl x1), (2, .inl x2)] [] (c, σ, pr, τ) = (if (σ 2 0 2) < 0 ∨ 8 ≤ Int32.toNatClampNeg (σ 2 0 2) then none else (if ((mq_up σ 11 0 (Int32.toNatClampNeg (σ 2 0 2)) x1) 2 0 2) < 0 ∨ 8 ≤ Int32.toNatClampNeg ((mq_up σ 11 0 (Int32.toNatClampNeg (σ 2 0 2)) x1) 2 0 2) then none else some (.inl (some (.inl 1)), (c, (mq_up (mq_up (mq_up σ 11 0 (Int32.toNatClampNeg (σ 2 0 2)) x1) 11 1 (Int32.toNatClampNeg ((mq_up σ 11 0 (Int32.toNatClampNeg (σ 2 0 2)) x1) 2 0 2)) x2) 2 0 2 (((mq_up (mq_up σ 11 0 (Int32.toNatClampNeg (σ 2 0 2)) x1) 11 1 (Int32.toNatClampNeg ((mq_up σ 11 0 (Int32.toNatClampNeg (σ 2 0 2)) x1) 2 0 2)) x2) 2 0 2) + 1)), pr, τ)))) := id rfl
theorem T12_9 (F d f : Nat) (x1 x2 : Int32) (c : Nat → Nat) (σ : mSg) (τ : mLg) :
    pL F d 12 (f + 2) 9 [(0, .inr (some (2, 0))), (1, .inl x1), (2, .inl x2)] [] (c, σ, pr, τ) = some (.inl (some (.inl 0)), (c, σ, pr, τ)) := id rfl
/-! PartitionKernel$Frame.owner()I -/
theorem T13 (F d : Nat) (c : Nat → Nat) (σ : mSg) (τ : mLg) :
    pX F (d + 1) 13 [.inr (some (2, 0))] (c, σ, pr, τ) = pL F d 13 F 0 [(0, .inr (some (2, 0)))] [] (c, σ, pr, τ) := id rfl
theorem T13_0 (F d f : Nat) (c : Nat → Nat) (σ : mSg) (τ : mLg) :
    pL F d 13 (f + 5) 0 [(0, .inr (some (2, 0)))] [] (c, σ, pr, τ) = (if (σ 2 0 3) < (σ 2 0 2) then pL F d 13 f 11 [(0, .inr (some (2, 0)))] [] (c, σ, pr, τ) else pL F d 13 f 23 [(0, .inr (some (2, 0)))] [] (c, σ, pr, τ)) := id rfl
theorem T13_11 (F d f : Nat) (c : Nat → Nat) (σ : mSg) (τ : mLg) :
    pL F d 13 (f + 7) 11 [(0, .inr (some (2, 0)))] [] (c, σ, pr, τ) = (if (σ 2 0 3) < 0 ∨ 8 ≤ Int32.toNatClampNeg (σ 2 0 3) then none else some (.inl (some (.inl (σ 11 0 (Int32.toNatClampNeg (σ 2 0 3))))), (c, σ, pr, τ))) := id rfl
theorem T13_23 (F d f : Nat) (c : Nat → Nat) (σ : mSg) (τ : mLg) :
    pL F d 13 (f + 2) 23 [(0, .inr (some (2, 0)))] [] (c, σ, pr, τ) = some (.inl (some (.inl (-1))), (c, σ, pr, τ)) := id rfl
/-! PartitionKernel$Frame.advance()V -/
theorem T14 (F d : Nat) (c : Nat → Nat) (σ : mSg) (τ : mLg) :
    pX F (d + 1) 14 [.inr (some (2, 0))] (c, σ, pr, τ) = pL F d 14 F 0 [(0, .inr (some (2, 0)))] [] (c, σ, pr, τ) := id rfl
theorem T14_0 (F d f : Nat) (c : Nat → Nat) (σ : mSg) (τ : mLg) :
    pL F d 14 (f + 5) 0 [(0, .inr (some (2, 0)))] [] (c, σ, pr, τ) = (if (σ 2 0 3) < (σ 2 0 2) then pL F d 14 f 12 [(0, .inr (some (2, 0)))] [] (c, σ, pr, τ) else pL F d 14 f 11 [(0, .inr (some (2, 0)))] [] (c, σ, pr, τ)) := id rfl
theorem T14_12 (F d f : Nat) (c : Nat → Nat) (σ : mSg) (τ : mLg) :
    pL F d 14 (f + 14) 12 [(0, .inr (some (2, 0)))] [] (c, σ, pr, τ) = (if ((mq_up σ 2 0 4 ((σ 2 0 4) + 1)) 2 0 3) < 0 ∨ 8 ≤ Int32.toNatClampNeg ((mq_up σ 2 0 4 ((σ 2 0 4) + 1)) 2 0 3) then none else (if ((mq_up σ 2 0 4 ((σ 2 0 4) + 1)) 2 0 4) < ((mq_up σ 2 0 4 ((σ 2 0 4) + 1)) 11 1 (Int32.toNatClampNeg ((mq_up σ 2 0 4 ((σ 2 0 4) + 1)) 2 0 3))) then pL F d 14 f 70 [(0, .inr (some (2, 0)))] [] (c, (mq_up σ 2 0 4 ((σ 2 0 4) + 1)), pr, τ) else pL F d 14 f 38 [(0, .inr (some (2, 0)))] [] (c, (mq_up σ 2 0 4 ((σ 2 0 4) + 1)), pr, τ))) := id rfl
theorem T14_11 (F d f : Nat) (c : Nat → Nat) (σ : mSg) (τ : mLg) :
    pL F d 14 (f + 1) 11 [(0, .inr (some (2, 0)))] [] (c, σ, pr, τ) = some (.inl (none), (c, σ, pr, τ)) := id rfl
theorem T14_70 (F d f : Nat) (c : Nat → Nat) (σ : mSg) (τ : mLg) :
    pL F d 14 (f + 1) 70 [(0, .inr (some (2, 0)))] [] (c, σ, pr, τ) = some (.inl (none), (c, σ, pr, τ)) := id rfl
theorem T14_38 (F d f : Nat) (c : Nat → Nat) (σ : mSg) (τ : mLg) :
    pL F d 14 (f + 11) 38 [(0, .inr (some (2, 0)))] [] (c, σ, pr, τ) = (if (((mq_up σ 2 0 4 0) 2 0 3) + 1) < ((mq_up σ 2 0 4 0) 2 0 2) then pL F d 14 f 57 [(0, .inr (some (2, 0)))] [.inr (.inl (some (2, 0)))] (c, (mq_up σ 2 0 4 0), pr, τ) else pL F d 14 f 66 [(0, .inr (some (2, 0)))] [.inr (.inl (some (2, 0)))] (c, (mq_up σ 2 0 4 0), pr, τ)) := id rfl
theorem T14_57 (F d f : Nat) (c : Nat → Nat) (σ : mSg) (τ : mLg) :
    pL F d 14 (f + 7) 57 [(0, .inr (some (2, 0)))] [.inr (.inl (some (2, 0)))] (c, σ, pr, τ) = some (.inl (none), (c, (mq_up σ 2 0 3 ((σ 2 0 3) + 1)), pr, τ)) := id rfl
theorem T14_66 (F d f : Nat) (c : Nat → Nat) (σ : mSg) (τ : mLg) :
    pL F d 14 (f + 3) 66 [(0, .inr (some (2, 0)))] [.inr (.inl (some (2, 0)))] (c, σ, pr, τ) = some (.inl (none), (c, (mq_up σ 2 0 3 0), pr, τ)) := id rfl
/-! PartitionKernel$Memory.holds(II)Z -/
theorem T16 (F d : Nat) (x0 x1 : Int32) (c : Nat → Nat) (σ : mSg) (τ : mLg) :
    pX F (d + 1) 16 [.inl x0, .inl x1] (c, σ, pr, τ) = pL F d 16 F 0 [(0, .inl x0), (1, .inl x1)] [] (c, σ, pr, τ) := id rfl
theorem T16_0 (F d f : Nat) (x0 x1 : Int32) (c : Nat → Nat) (σ : mSg) (τ : mLg) :
    pL F d 16 (f + 2) 0 [(0, .inl x0), (1, .inl x1)] [] (c, σ, pr, τ) = (if x0 < 0 then pL F d 16 f 23 [(0, .inl x0), (1, .inl x1)] [] (c, σ, pr, τ) else pL F d 16 f 4 [(0, .inl x0), (1, .inl x1)] [] (c, σ, pr, τ)) := id rfl
theorem T16_23 (F d f : Nat) (x0 x1 : Int32) (c : Nat → Nat) (σ : mSg) (τ : mLg) :
    pL F d 16 (f + 2) 23 [(0, .inl x0), (1, .inl x1)] [] (c, σ, pr, τ) = some (.inl (some (.inl 0)), (c, σ, pr, τ)) := id rfl
theorem T16_4 (F d f : Nat) (x0 x1 : Int32) (c : Nat → Nat) (σ : mSg) (τ : mLg) :
    pL F d 16 (f + 3) 4 [(0, .inl x0), (1, .inl x1)] [] (c, σ, pr, τ) = (if x0 < 1024 then pL F d 16 f 11 [(0, .inl x0), (1, .inl x1)] [] (c, σ, pr, τ) else pL F d 16 f 23 [(0, .inl x0), (1, .inl x1)] [] (c, σ, pr, τ)) := id rfl
theorem T16_11 (F d f : Nat) (x0 x1 : Int32) (c : Nat → Nat) (σ : mSg) (τ : mLg) :
    pL F d 16 (f + 6) 11 [(0, .inl x0), (1, .inl x1)] [] (c, σ, pr, τ) = (if (x0 &&& (x1 - 1)) = 0 then pL F d 16 f 19 [(0, .inl x0), (1, .inl x1)] [] (c, σ, pr, τ) else pL F d 16 f 23 [(0, .inl x0), (1, .inl x1)] [] (c, σ, pr, τ)) := id rfl
theorem T16_19 (F d f : Nat) (x0 x1 : Int32) (c : Nat → Nat) (σ : mSg) (τ : mLg) :
    pL F d 16 (f + 3) 19 [(0, .inl x0), (1, .inl x1)] [] (c, σ, pr, τ) = some (.inl (some (.inl 1)), (c, σ, pr, τ)) := id rfl
/-! PartitionKernel$Memory.readWord(I)I -/
theorem T17 (F d r0 : Nat) (x1 : Int32) (c : Nat → Nat) (σ : mSg) (τ : mLg) :
    pX F (d + 1) 17 [.inr (some (3, r0)), .inl x1] (c, σ, pr, τ) = pL F d 17 F 0 [(0, .inr (some (3, r0))), (1, .inl x1)] [] (c, σ, pr, τ) := id rfl
theorem T17_0 (F d f r0 : Nat) (x1 : Int32) (c : Nat → Nat) (σ : mSg) (τ : mLg) :
    pL F d 17 (f + 3) 0 [(0, .inr (some (3, r0))), (1, .inl x1)] [] (c, σ, pr, τ) = mq_ks (pX F d 16 [.inl x1, .inl 4] (c, σ, pr, τ)) (fun w M => pL F d 17 f 5 [(0, .inr (some (3, r0))), (1, .inl x1)] (mq_psh w []) M) := id rfl
theorem T17_5 (F d f r0 : Nat) (x1 x_0 : Int32) (c : Nat → Nat) (σ : mSg) (τ : mLg) :
    pL F d 17 (f + 1) 5 [(0, .inr (some (3, r0))), (1, .inl x1)] [.inl x_0] (c, σ, pr, τ) = (if x_0 = 0 then pL F d 17 f 19 [(0, .inr (some (3, r0))), (1, .inl x1)] [] (c, σ, pr, τ) else pL F d 17 f 8 [(0, .inr (some (3, r0))), (1, .inl x1)] [] (c, σ, pr, τ)) := id rfl
theorem T17_19 (F d f r0 : Nat) (x1 : Int32) (c : Nat → Nat) (σ : mSg) (τ : mLg) :
    pL F d 17 (f + 2) 19 [(0, .inr (some (3, r0))), (1, .inl x1)] [] (c, σ, pr, τ) = some (.inl (some (.inl 0)), (c, σ, pr, τ)) := id rfl
theorem T17_8 (F d f r0 : Nat) (x1 : Int32) (c : Nat → Nat) (σ : mSg) (τ : mLg) :
    pL F d 17 (f + 8) 8 [(0, .inr (some (3, r0))), (1, .inl x1)] [] (c, σ, pr, τ) = (if (x1 >>> (2 &&& 31)) < 0 ∨ 256 ≤ Int32.toNatClampNeg (x1 >>> (2 &&& 31)) then none else some (.inl (some (.inl (σ 15 r0 (Int32.toNatClampNeg (x1 >>> (2 &&& 31)))))), (c, σ, pr, τ))) := id rfl
/-! PartitionKernel$Memory.writeWord(II)V -/
theorem T18 (F d r0 : Nat) (x1 x2 : Int32) (c : Nat → Nat) (σ : mSg) (τ : mLg) :
    pX F (d + 1) 18 [.inr (some (3, r0)), .inl x1, .inl x2] (c, σ, pr, τ) = pL F d 18 F 0 [(0, .inr (some (3, r0))), (1, .inl x1), (2, .inl x2)] [] (c, σ, pr, τ) := id rfl
theorem T18_0 (F d f r0 : Nat) (x1 x2 : Int32) (c : Nat → Nat) (σ : mSg) (τ : mLg) :
    pL F d 18 (f + 3) 0 [(0, .inr (some (3, r0))), (1, .inl x1), (2, .inl x2)] [] (c, σ, pr, τ) = mq_ks (pX F d 16 [.inl x1, .inl 4] (c, σ, pr, τ)) (fun w M => pL F d 18 f 5 [(0, .inr (some (3, r0))), (1, .inl x1), (2, .inl x2)] (mq_psh w []) M) := id rfl
theorem T18_5 (F d f r0 : Nat) (x1 x2 x_0 : Int32) (c : Nat → Nat) (σ : mSg) (τ : mLg) :
    pL F d 18 (f + 1) 5 [(0, .inr (some (3, r0))), (1, .inl x1), (2, .inl x2)] [.inl x_0] (c, σ, pr, τ) = (if x_0 = 0 then pL F d 18 f 17 [(0, .inr (some (3, r0))), (1, .inl x1), (2, .inl x2)] [] (c, σ, pr, τ) else pL F d 18 f 8 [(0, .inr (some (3, r0))), (1, .inl x1), (2, .inl x2)] [] (c, σ, pr, τ)) := id rfl
theorem T18_17 (F d f r0 : Nat) (x1 x2 : Int32) (c : Nat → Nat) (σ : mSg) (τ : mLg) :
    pL F d 18 (f + 1) 17 [(0, .inr (some (3, r0))), (1, .inl x1), (2, .inl x2)] [] (c, σ, pr, τ) = some (.inl (none), (c, σ, pr, τ)) := id rfl
theorem T18_8 (F d f r0 : Nat) (x1 x2 : Int32) (c : Nat → Nat) (σ : mSg) (τ : mLg) :
    pL F d 18 (f + 8) 8 [(0, .inr (some (3, r0))), (1, .inl x1), (2, .inl x2)] [] (c, σ, pr, τ) = (if (x1 >>> (2 &&& 31)) < 0 ∨ 256 ≤ Int32.toNatClampNeg (x1 >>> (2 &&& 31)) then none else some (.inl (none), (c, (mq_up σ 15 r0 (Int32.toNatClampNeg (x1 >>> (2 &&& 31))) x2), pr, τ))) := id rfl
/-! PartitionKernel$Memory.readFrom(I)I -/
theorem T19 (F d r0 : Nat) (x1 : Int32) (c : Nat → Nat) (σ : mSg) (τ : mLg) :
    pX F (d + 1) 19 [.inr (some (3, r0)), .inl x1] (c, σ, pr, τ) = pL F d 19 F 0 [(0, .inr (some (3, r0))), (1, .inl x1)] [] (c, σ, pr, τ) := id rfl
theorem T19_0 (F d f r0 : Nat) (x1 : Int32) (c : Nat → Nat) (σ : mSg) (τ : mLg) :
    pL F d 19 (f + 5) 0 [(0, .inr (some (3, r0))), (1, .inl x1)] [] (c, σ, pr, τ) = mq_kv (pX F d 17 [.inr (some (3, r0)), .inl (x1 &&& (-4))] (c, σ, pr, τ)) (fun w M => pL F d 19 f 8 [(0, .inr (some (3, r0))), (1, .inl x1)] (mq_psh w []) M) := id rfl
theorem T19_8 (F d f r0 : Nat) (x1 x_0 : Int32) (c : Nat → Nat) (σ : mSg) (τ : mLg) :
    pL F d 19 (f + 2) 8 [(0, .inr (some (3, r0))), (1, .inl x1)] [.inl x_0] (c, σ, pr, τ) = mq_ks (pX F d 21 [.inl x1] (c, σ, pr, τ)) (fun w M => pL F d 19 f 12 [(0, .inr (some (3, r0))), (1, .inl x1)] (mq_psh w [.inl x_0]) M) := id rfl
theorem T19_12 (F d f r0 : Nat) (x1 x_0 x_1 : Int32) (c : Nat → Nat) (σ : mSg) (τ : mLg) :
    pL F d 19 (f + 2) 12 [(0, .inr (some (3, r0))), (1, .inl x1)] [.inl x_0, .inl x_1] (c, σ, pr, τ) = some (.inl (some (.inl ((Int32.toUInt32 x_1 >>> (Int32.toUInt32 x_0 &&& Int32.toUInt32 31)).toInt32))), (c, σ, pr, τ)) := id rfl
/-! PartitionKernel$Memory.write(III)V -/
theorem T20 (F d r0 : Nat) (x1 x2 x3 : Int32) (c : Nat → Nat) (σ : mSg) (τ : mLg) :
    pX F (d + 1) 20 [.inr (some (3, r0)), .inl x1, .inl x2, .inl x3] (c, σ, pr, τ) = pL F d 20 F 0 [(0, .inr (some (3, r0))), (1, .inl x1), (2, .inl x2), (3, .inl x3)] [] (c, σ, pr, τ) := id rfl
theorem T20_0 (F d f r0 : Nat) (x1 x2 x3 : Int32) (c : Nat → Nat) (σ : mSg) (τ : mLg) :
    pL F d 20 (f + 3) 0 [(0, .inr (some (3, r0))), (1, .inl x1), (2, .inl x2), (3, .inl x3)] [] (c, σ, pr, τ) = (if x2 = 4 then pL F d 20 f 5 [(0, .inr (some (3, r0))), (1, .inl x1), (2, .inl x2), (3, .inl x3)] [] (c, σ, pr, τ) else pL F d 20 f 9 [(0, .inr (some (3, r0))), (1, .inl x1), (2, .inl x2), (3, .inl x3)] [] (c, σ, pr, τ)) := id rfl
theorem T20_5 (F d f r0 : Nat) (x1 x2 x3 : Int32) (c : Nat → Nat) (σ : mSg) (τ : mLg) :
    pL F d 20 (f + 6) 5 [(0, .inr (some (3, r0))), (1, .inl x1), (2, .inl x2), (3, .inl x3)] [] (c, σ, pr, τ) = mq_ks (pX F d 21 [.inl x1] (c, σ, pr, τ)) (fun w M => pL F d 20 f 25 [(0, .inr (some (3, r0))), (1, .inl x1), (2, .inl x2), (3, .inl x3), (4, .inl (-1))] (mq_psh w [.inl (-1)]) M) := id rfl
theorem T20_9 (F d f r0 : Nat) (x1 x2 x3 : Int32) (c : Nat → Nat) (σ : mSg) (τ : mLg) :
    pL F d 20 (f + 11) 9 [(0, .inr (some (3, r0))), (1, .inl x1), (2, .inl x2), (3, .inl x3)] [] (c, σ, pr, τ) = mq_ks (pX F d 21 [.inl x1] (c, σ, pr, τ)) (fun w M => pL F d 20 f 25 [(0, .inr (some (3, r0))), (1, .inl x1), (2, .inl x2), (3, .inl x3), (4, .inl ((1 <<< ((x2 * 8) &&& 31)) - 1))] (mq_psh w [.inl ((1 <<< ((x2 * 8) &&& 31)) - 1)]) M) := id rfl
theorem T20_25 (F d f r0 : Nat) (x1 x2 x3 x4 x_0 x_1 : Int32) (c : Nat → Nat) (σ : mSg) (τ : mLg) :
    pL F d 20 (f + 7) 25 [(0, .inr (some (3, r0))), (1, .inl x1), (2, .inl x2), (3, .inl x3), (4, .inl x4)] [.inl x_0, .inl x_1] (c, σ, pr, τ) = mq_kv (pX F d 17 [.inr (some (3, r0)), .inl (x1 &&& (-4))] (c, σ, pr, τ)) (fun w M => pL F d 20 f 36 [(0, .inr (some (3, r0))), (1, .inl x1), (2, .inl x2), (3, .inl x3), (4, .inl x4), (5, .inl (x_1 <<< (x_0 &&& 31)))] (mq_psh w []) M) := id rfl
theorem T20_36 (F d f r0 : Nat) (x1 x2 x3 x4 x5 x_0 : Int32) (c : Nat → Nat) (σ : mSg) (τ : mLg) :
    pL F d 20 (f + 13) 36 [(0, .inr (some (3, r0))), (1, .inl x1), (2, .inl x2), (3, .inl x3), (4, .inl x4), (5, .inl x5)] [.inl x_0] (c, σ, pr, τ) = mq_ks (pX F d 21 [.inl x1] (c, σ, pr, τ)) (fun w M => pL F d 20 f 55 [(0, .inr (some (3, r0))), (1, .inl x1), (2, .inl x2), (3, .inl x3), (4, .inl x4), (5, .inl x5), (6, .inl (x_0 &&& (x5 ^^^ (-1))))] (mq_psh w [.inl x3, .inl (x_0 &&& (x5 ^^^ (-1))), .inl (x1 &&& (-4)), .inr (.inl (some (3, r0)))]) M) := id rfl
theorem T20_55 (F d f r0 r_4 : Nat) (x1 x2 x3 x4 x5 x6 x_0 x_1 x_2 x_3 : Int32) (c : Nat → Nat) (σ : mSg) (τ : mLg) :
    pL F d 20 (f + 5) 55 [(0, .inr (some (3, r0))), (1, .inl x1), (2, .inl x2), (3, .inl x3), (4, .inl x4), (5, .inl x5), (6, .inl x6)] [.inl x_0, .inl x_1, .inl x_2, .inl x_3, .inr (.inl (some (3, r_4)))] (c, σ, pr, τ) = mq_kv (pX F d 18 [.inr (some (3, r_4)), .inl x_3, .inl (x_2 ||| ((x_1 <<< (x_0 &&& 31)) &&& x5))] (c, σ, pr, τ)) (fun w M => pL F d 20 f 63 [(0, .inr (some (3, r0))), (1, .inl x1), (2, .inl x2), (3, .inl x3), (4, .inl x4), (5, .inl x5), (6, .inl x6)] (mq_psh w []) M) := id rfl
theorem T20_63 (F d f r0 : Nat) (x1 x2 x3 x4 x5 x6 : Int32) (c : Nat → Nat) (σ : mSg) (τ : mLg) :
    pL F d 20 (f + 1) 63 [(0, .inr (some (3, r0))), (1, .inl x1), (2, .inl x2), (3, .inl x3), (4, .inl x4), (5, .inl x5), (6, .inl x6)] [] (c, σ, pr, τ) = some (.inl (none), (c, σ, pr, τ)) := id rfl
/-! PartitionKernel$Memory.shiftOf(I)I -/
theorem T21 (F d : Nat) (x0 : Int32) (c : Nat → Nat) (σ : mSg) (τ : mLg) :
    pX F (d + 1) 21 [.inl x0] (c, σ, pr, τ) = pL F d 21 F 0 [(0, .inl x0)] [] (c, σ, pr, τ) := id rfl
theorem T21_0 (F d f : Nat) (x0 : Int32) (c : Nat → Nat) (σ : mSg) (τ : mLg) :
    pL F d 21 (f + 6) 0 [(0, .inl x0)] [] (c, σ, pr, τ) = some (.inl (some (.inl ((x0 &&& 3) * 8))), (c, σ, pr, τ)) := id rfl
/-! PartitionKernel$Partition.add(IIII)I -/
theorem T23 (F d r0 : Nat) (x1 x2 x3 x4 : Int32) (c : Nat → Nat) (σ : mSg) (τ : mLg) :
    pX F (d + 1) 23 [.inr (some (4, r0)), .inl x1, .inl x2, .inl x3, .inl x4] (c, σ, pr, τ) = pL F d 23 F 0 [(0, .inr (some (4, r0))), (1, .inl x1), (2, .inl x2), (3, .inl x3), (4, .inl x4)] [] (c, σ, pr, τ) := id rfl
theorem T23_0 (F d f r0 : Nat) (x1 x2 x3 x4 : Int32) (c : Nat → Nat) (σ : mSg) (τ : mLg) :
    pL F d 23 (f + 4) 0 [(0, .inr (some (4, r0))), (1, .inl x1), (2, .inl x2), (3, .inl x3), (4, .inl x4)] [] (c, σ, pr, τ) = (if (σ 4 r0 5) < 8 then pL F d 23 f 11 [(0, .inr (some (4, r0))), (1, .inl x1), (2, .inl x2), (3, .inl x3), (4, .inl x4)] [] (c, σ, pr, τ) else pL F d 23 f 9 [(0, .inr (some (4, r0))), (1, .inl x1), (2, .inl x2), (3, .inl x3), (4, .inl x4)] [] (c, σ, pr, τ)) := id rfl
theorem T23_11 (F d f r0 : Nat) (x1 x2 x3 x4 : Int32) (c : Nat → Nat) (σ : mSg) (τ : mLg) :
    pL F d 23 (f + 27) 11 [(0, .inr (some (4, r0))), (1, .inl x1), (2, .inl x2), (3, .inl x3), (4, .inl x4)] [] (c, σ, pr, τ) = (if (σ 4 r0 5) < 0 ∨ 8 ≤ Int32.toNatClampNeg (σ 4 r0 5) then none else some (.inl (some (.inl ((mq_up (mq_up (mq_up (mq_up (mq_up σ 5 (8 * r0 + Int32.toNatClampNeg (σ 4 r0 5)) 2 x1) 5 (8 * r0 + Int32.toNatClampNeg (σ 4 r0 5)) 3 x2) 5 (8 * r0 + Int32.toNatClampNeg (σ 4 r0 5)) 4 x3) 5 (8 * r0 + Int32.toNatClampNeg (σ 4 r0 5)) 5 x4) 4 r0 5 (((mq_up (mq_up (mq_up (mq_up σ 5 (8 * r0 + Int32.toNatClampNeg (σ 4 r0 5)) 2 x1) 5 (8 * r0 + Int32.toNatClampNeg (σ 4 r0 5)) 3 x2) 5 (8 * r0 + Int32.toNatClampNeg (σ 4 r0 5)) 4 x3) 5 (8 * r0 + Int32.toNatClampNeg (σ 4 r0 5)) 5 x4) 4 r0 5) + 1)) 5 (8 * r0 + Int32.toNatClampNeg (σ 4 r0 5)) 0))), (c, (mq_up (mq_up (mq_up (mq_up (mq_up σ 5 (8 * r0 + Int32.toNatClampNeg (σ 4 r0 5)) 2 x1) 5 (8 * r0 + Int32.toNatClampNeg (σ 4 r0 5)) 3 x2) 5 (8 * r0 + Int32.toNatClampNeg (σ 4 r0 5)) 4 x3) 5 (8 * r0 + Int32.toNatClampNeg (σ 4 r0 5)) 5 x4) 4 r0 5 (((mq_up (mq_up (mq_up (mq_up σ 5 (8 * r0 + Int32.toNatClampNeg (σ 4 r0 5)) 2 x1) 5 (8 * r0 + Int32.toNatClampNeg (σ 4 r0 5)) 3 x2) 5 (8 * r0 + Int32.toNatClampNeg (σ 4 r0 5)) 4 x3) 5 (8 * r0 + Int32.toNatClampNeg (σ 4 r0 5)) 5 x4) 4 r0 5) + 1)), pr, τ))) := id rfl
theorem T23_9 (F d f r0 : Nat) (x1 x2 x3 x4 : Int32) (c : Nat → Nat) (σ : mSg) (τ : mLg) :
    pL F d 23 (f + 2) 9 [(0, .inr (some (4, r0))), (1, .inl x1), (2, .inl x2), (3, .inl x3), (4, .inl x4)] [] (c, σ, pr, τ) = some (.inl (some (.inl (-1))), (c, σ, pr, τ)) := id rfl
/-! PartitionKernel$Partition.find(I)LPartitionKernel$Proc; -/
theorem T24 (F d r0 : Nat) (x1 : Int32) (c : Nat → Nat) (σ : mSg) (τ : mLg) :
    pX F (d + 1) 24 [.inr (some (4, r0)), .inl x1] (c, σ, pr, τ) = pL F d 24 F 0 [(0, .inr (some (4, r0))), (1, .inl x1)] [] (c, σ, pr, τ) := id rfl
theorem T24_0 (F d f r0 : Nat) (x1 : Int32) (c : Nat → Nat) (σ : mSg) (τ : mLg) :
    pL F d 24 (f + 2) 0 [(0, .inr (some (4, r0))), (1, .inl x1)] [] (c, σ, pr, τ) = (if x1 < 0 then pL F d 24 f 21 [(0, .inr (some (4, r0))), (1, .inl x1)] [] (c, σ, pr, τ) else pL F d 24 f 4 [(0, .inr (some (4, r0))), (1, .inl x1)] [] (c, σ, pr, τ)) := id rfl
theorem T24_21 (F d f r0 : Nat) (x1 : Int32) (c : Nat → Nat) (σ : mSg) (τ : mLg) :
    pL F d 24 (f + 2) 21 [(0, .inr (some (4, r0))), (1, .inl x1)] [] (c, σ, pr, τ) = some (.inl (some (.inr none)), (c, σ, pr, τ)) := id rfl
theorem T24_4 (F d f r0 : Nat) (x1 : Int32) (c : Nat → Nat) (σ : mSg) (τ : mLg) :
    pL F d 24 (f + 4) 4 [(0, .inr (some (4, r0))), (1, .inl x1)] [] (c, σ, pr, τ) = (if x1 < (σ 4 r0 5) then pL F d 24 f 12 [(0, .inr (some (4, r0))), (1, .inl x1)] [] (c, σ, pr, τ) else pL F d 24 f 21 [(0, .inr (some (4, r0))), (1, .inl x1)] [] (c, σ, pr, τ)) := id rfl
theorem T24_12 (F d f r0 : Nat) (x1 : Int32) (c : Nat → Nat) (σ : mSg) (τ : mLg) :
    pL F d 24 (f + 6) 12 [(0, .inr (some (4, r0))), (1, .inl x1)] [] (c, σ, pr, τ) = (if x1 < 0 ∨ 8 ≤ Int32.toNatClampNeg x1 then none else some (.inl (some (.inr (some (5, (8 * r0 + Int32.toNatClampNeg x1))))), (c, σ, pr, τ))) := id rfl
/-! PartitionKernel$Partition.actionFor(I)I -/
theorem T25 (F d r0 : Nat) (x1 : Int32) (c : Nat → Nat) (σ : mSg) (τ : mLg) :
    pX F (d + 1) 25 [.inr (some (4, r0)), .inl x1] (c, σ, pr, τ) = pL F d 25 F 0 [(0, .inr (some (4, r0))), (1, .inl x1)] [] (c, σ, pr, τ) := id rfl
theorem T25_0 (F d f r0 : Nat) (x1 : Int32) (c : Nat → Nat) (σ : mSg) (τ : mLg) :
    pL F d 25 (f + 2) 0 [(0, .inr (some (4, r0))), (1, .inl x1)] [] (c, σ, pr, τ) = (if x1 < 0 then pL F d 25 f 18 [(0, .inr (some (4, r0))), (1, .inl x1)] [] (c, σ, pr, τ) else pL F d 25 f 4 [(0, .inr (some (4, r0))), (1, .inl x1)] [] (c, σ, pr, τ)) := id rfl
theorem T25_18 (F d f r0 : Nat) (x1 : Int32) (c : Nat → Nat) (σ : mSg) (τ : mLg) :
    pL F d 25 (f + 2) 18 [(0, .inr (some (4, r0))), (1, .inl x1)] [] (c, σ, pr, τ) = some (.inl (some (.inl 0)), (c, σ, pr, τ)) := id rfl
theorem T25_4 (F d f r0 : Nat) (x1 : Int32) (c : Nat → Nat) (σ : mSg) (τ : mLg) :
    pL F d 25 (f + 3) 4 [(0, .inr (some (4, r0))), (1, .inl x1)] [] (c, σ, pr, τ) = (if x1 < 4 then pL F d 25 f 9 [(0, .inr (some (4, r0))), (1, .inl x1)] [] (c, σ, pr, τ) else pL F d 25 f 18 [(0, .inr (some (4, r0))), (1, .inl x1)] [] (c, σ, pr, τ)) := id rfl
theorem T25_9 (F d f r0 : Nat) (x1 : Int32) (c : Nat → Nat) (σ : mSg) (τ : mLg) :
    pL F d 25 (f + 6) 9 [(0, .inr (some (4, r0))), (1, .inl x1)] [] (c, σ, pr, τ) = (if x1 < 0 ∨ 4 ≤ Int32.toNatClampNeg x1 then none else some (.inl (some (.inl (σ 10 (2 * r0 + 1) (Int32.toNatClampNeg x1)))), (c, σ, pr, τ))) := id rfl
/-! PartitionKernel$Partition.tell(I)I -/
theorem T26 (F d r0 : Nat) (x1 : Int32) (c : Nat → Nat) (σ : mSg) (τ : mLg) :
    pX F (d + 1) 26 [.inr (some (4, r0)), .inl x1] (c, σ, pr, τ) = pL F d 26 F 0 [(0, .inr (some (4, r0))), (1, .inl x1)] [] (c, σ, pr, τ) := id rfl
theorem T26_0 (F d f r0 : Nat) (x1 : Int32) (c : Nat → Nat) (σ : mSg) (τ : mLg) :
    pL F d 26 (f + 2) 0 [(0, .inr (some (4, r0))), (1, .inl x1)] [] (c, σ, pr, τ) = pL F d 26 f (mq_swt x1 60 [(0, 32), (1, 45), (2, 50), (3, 55)]) [(0, .inr (some (4, r0))), (1, .inl x1)] [] (c, σ, pr, τ) := id rfl
theorem T26_32 (F d f r0 : Nat) (x1 : Int32) (c : Nat → Nat) (σ : mSg) (τ : mLg) :
    pL F d 26 (f + 3) 32 [(0, .inr (some (4, r0))), (1, .inl x1)] [] (c, σ, pr, τ) = (if (σ 4 r0 8) = 0 then pL F d 26 f 43 [(0, .inr (some (4, r0))), (1, .inl x1)] [] (c, σ, pr, τ) else pL F d 26 f 39 [(0, .inr (some (4, r0))), (1, .inl x1)] [] (c, σ, pr, τ)) := id rfl
theorem T26_45 (F d f r0 : Nat) (x1 : Int32) (c : Nat → Nat) (σ : mSg) (τ : mLg) :
    pL F d 26 (f + 3) 45 [(0, .inr (some (4, r0))), (1, .inl x1)] [] (c, σ, pr, τ) = some (.inl (some (.inl (σ 4 r0 5))), (c, σ, pr, τ)) := id rfl
theorem T26_50 (F d f r0 : Nat) (x1 : Int32) (c : Nat → Nat) (σ : mSg) (τ : mLg) :
    pL F d 26 (f + 2) 50 [(0, .inr (some (4, r0))), (1, .inl x1)] [] (c, σ, pr, τ) = mq_kv (pX F d 38 [.inr (some (4, r0))] (c, σ, pr, τ)) (fun w M => pL F d 26 f 54 [(0, .inr (some (4, r0))), (1, .inl x1)] (mq_psh w []) M) := id rfl
theorem T26_55 (F d f r0 : Nat) (x1 : Int32) (c : Nat → Nat) (σ : mSg) (τ : mLg) :
    pL F d 26 (f + 3) 55 [(0, .inr (some (4, r0))), (1, .inl x1)] [] (c, σ, pr, τ) = some (.inl (some (.inl (σ 4 r0 7))), (c, σ, pr, τ)) := id rfl
theorem T26_60 (F d f r0 : Nat) (x1 : Int32) (c : Nat → Nat) (σ : mSg) (τ : mLg) :
    pL F d 26 (f + 4) 60 [(0, .inr (some (4, r0))), (1, .inl x1)] [] (c, σ, pr, τ) = mq_ks (pX F d 39 [.inl (x1 - 4)] (c, σ, pr, τ)) (fun w M => pL F d 26 f 66 [(0, .inr (some (4, r0))), (1, .inl x1)] (mq_psh w []) M) := id rfl
theorem T26_43 (F d f r0 : Nat) (x1 : Int32) (c : Nat → Nat) (σ : mSg) (τ : mLg) :
    pL F d 26 (f + 2) 43 [(0, .inr (some (4, r0))), (1, .inl x1)] [] (c, σ, pr, τ) = some (.inl (some (.inl 0)), (c, σ, pr, τ)) := id rfl
theorem T26_39 (F d f r0 : Nat) (x1 : Int32) (c : Nat → Nat) (σ : mSg) (τ : mLg) :
    pL F d 26 (f + 3) 39 [(0, .inr (some (4, r0))), (1, .inl x1)] [] (c, σ, pr, τ) = some (.inl (some (.inl 1)), (c, σ, pr, τ)) := id rfl
theorem T26_54 (F d f r0 : Nat) (x1 x_0 : Int32) (c : Nat → Nat) (σ : mSg) (τ : mLg) :
    pL F d 26 (f + 1) 54 [(0, .inr (some (4, r0))), (1, .inl x1)] [.inl x_0] (c, σ, pr, τ) = some (.inl (some (.inl x_0)), (c, σ, pr, τ)) := id rfl
theorem T26_66 (F d f r0 : Nat) (x1 x_0 : Int32) (c : Nat → Nat) (σ : mSg) (τ : mLg) :
    pL F d 26 (f + 1) 66 [(0, .inr (some (4, r0))), (1, .inl x1)] [.inl x_0] (c, σ, pr, τ) = (if x_0 = 0 then pL F d 26 f 80 [(0, .inr (some (4, r0))), (1, .inl x1)] [] (c, σ, pr, τ) else pL F d 26 f 69 [(0, .inr (some (4, r0))), (1, .inl x1)] [] (c, σ, pr, τ)) := id rfl
theorem T26_80 (F d f r0 : Nat) (x1 : Int32) (c : Nat → Nat) (σ : mSg) (τ : mLg) :
    pL F d 26 (f + 2) 80 [(0, .inr (some (4, r0))), (1, .inl x1)] [] (c, σ, pr, τ) = some (.inl (some (.inl (-1))), (c, σ, pr, τ)) := id rfl
theorem T26_69 (F d f r0 : Nat) (x1 : Int32) (c : Nat → Nat) (σ : mSg) (τ : mLg) :
    pL F d 26 (f + 8) 69 [(0, .inr (some (4, r0))), (1, .inl x1)] [] (c, σ, pr, τ) = (if (x1 - 4) < 0 ∨ 4 ≤ Int32.toNatClampNeg (x1 - 4) then none else some (.inl (some (.inl (σ 10 (2 * r0) (Int32.toNatClampNeg (x1 - 4))))), (c, σ, pr, τ))) := id rfl
/-! PartitionKernel$Partition.start(LPartitionKernel$Proc;I)V -/
theorem T27 (F d r0 r1 : Nat) (x2 : Int32) (c : Nat → Nat) (σ : mSg) (τ : mLg) :
    pX F (d + 1) 27 [.inr (some (4, r0)), .inr (some (5, r1)), .inl x2] (c, σ, pr, τ) = pL F d 27 F 0 [(0, .inr (some (4, r0))), (1, .inr (some (5, r1))), (2, .inl x2)] [] (c, σ, pr, τ) := id rfl
theorem T27_0 (F d f r0 r1 : Nat) (x2 : Int32) (c : Nat → Nat) (σ : mSg) (τ : mLg) :
    pL F d 27 (f + 2) 0 [(0, .inr (some (4, r0))), (1, .inr (some (5, r1))), (2, .inl x2)] [] (c, σ, pr, τ) = mq_kv (pX F d 45 [.inr (some (5, r1))] (c, σ, pr, τ)) (fun w M => pL F d 27 f 4 [(0, .inr (some (4, r0))), (1, .inr (some (5, r1))), (2, .inl x2)] (mq_psh w []) M) := id rfl
theorem T27_4 (F d f r0 r1 : Nat) (x2 : Int32) (c : Nat → Nat) (σ : mSg) (τ : mLg) :
    pL F d 27 (f + 3) 4 [(0, .inr (some (4, r0))), (1, .inr (some (5, r1))), (2, .inl x2)] [] (c, σ, pr, τ) = mq_kv (pX F d 46 [.inr (some (5, r1)), .inl x2] (c, σ, pr, τ)) (fun w M => pL F d 27 f 9 [(0, .inr (some (4, r0))), (1, .inr (some (5, r1))), (2, .inl x2)] (mq_psh w []) M) := id rfl
theorem T27_9 (F d f r0 r1 : Nat) (x2 : Int32) (c : Nat → Nat) (σ : mSg) (τ : mLg) :
    pL F d 27 (f + 6) 9 [(0, .inr (some (4, r0))), (1, .inr (some (5, r1))), (2, .inl x2)] [] (c, σ, pr, τ) = mq_kv (pX F d 41 [.inr (some (4, r0)), .inr (some (5, r1)), .inl 1, .inl (-1), .inl (-1)] (c, σ, pr, τ)) (fun w M => pL F d 27 f 17 [(0, .inr (some (4, r0))), (1, .inr (some (5, r1))), (2, .inl x2)] (mq_psh w []) M) := id rfl
theorem T27_17 (F d f r0 r1 : Nat) (x2 : Int32) (c : Nat → Nat) (σ : mSg) (τ : mLg) :
    pL F d 27 (f + 1) 17 [(0, .inr (some (4, r0))), (1, .inr (some (5, r1))), (2, .inl x2)] [] (c, σ, pr, τ) = some (.inl (none), (c, σ, pr, τ)) := id rfl
/-! PartitionKernel$Partition.startAll(I)V -/
theorem T28 (F d r0 : Nat) (x1 : Int32) (c : Nat → Nat) (σ : mSg) (τ : mLg) :
    pX F (d + 1) 28 [.inr (some (4, r0)), .inl x1] (c, σ, pr, τ) = pL F d 28 F 0 [(0, .inr (some (4, r0))), (1, .inl x1)] [] (c, σ, pr, τ) := id rfl
theorem T28_0 (F d f r0 : Nat) (x1 : Int32) (c : Nat → Nat) (σ : mSg) (τ : mLg) :
    pL F d 28 (f + 2) 0 [(0, .inr (some (4, r0))), (1, .inl x1)] [] (c, σ, pr, τ) = pL F d 28 f 2 [(0, .inr (some (4, r0))), (1, .inl x1), (2, .inl 0)] [] (c, σ, pr, τ) := id rfl
theorem T28_2 (F d f r0 : Nat) (x1 x2 : Int32) (c : Nat → Nat) (σ : mSg) (τ : mLg) :
    pL F d 28 (f + 4) 2 [(0, .inr (some (4, r0))), (1, .inl x1), (2, .inl x2)] [] (c, σ, pr, τ) = (if x2 < (σ 4 r0 5) then pL F d 28 f 10 [(0, .inr (some (4, r0))), (1, .inl x1), (2, .inl x2)] [] (c, σ, pr, τ) else pL F d 28 f 27 [(0, .inr (some (4, r0))), (1, .inl x1), (2, .inl x2)] [] (c, σ, pr, τ)) := id rfl
theorem T28_10 (F d f r0 : Nat) (x1 x2 : Int32) (c : Nat → Nat) (σ : mSg) (τ : mLg) :
    pL F d 28 (f + 7) 10 [(0, .inr (some (4, r0))), (1, .inl x1), (2, .inl x2)] [] (c, σ, pr, τ) = (if x2 < 0 ∨ 8 ≤ Int32.toNatClampNeg x2 then none else mq_kv (pX F d 27 [.inr (some (4, r0)), .inr (some (5, (8 * r0 + Int32.toNatClampNeg x2))), .inl x1] (c, σ, pr, τ)) (fun w M => pL F d 28 f 21 [(0, .inr (some (4, r0))), (1, .inl x1), (2, .inl x2)] (mq_psh w []) M)) := id rfl
theorem T28_27 (F d f r0 : Nat) (x1 x2 : Int32) (c : Nat → Nat) (σ : mSg) (τ : mLg) :
    pL F d 28 (f + 2) 27 [(0, .inr (some (4, r0))), (1, .inl x1), (2, .inl x2)] [] (c, σ, pr, τ) = pL F d 28 f 29 [(0, .inr (some (4, r0))), (1, .inl x1), (2, .inl 0)] [] (c, σ, pr, τ) := id rfl
theorem T28_21 (F d f r0 : Nat) (x1 x2 : Int32) (c : Nat → Nat) (σ : mSg) (τ : mLg) :
    pL F d 28 (f + 2) 21 [(0, .inr (some (4, r0))), (1, .inl x1), (2, .inl x2)] [] (c, σ, pr, τ) = pL F d 28 f 2 [(0, .inr (some (4, r0))), (1, .inl x1), (2, .inl (x2 + 1))] [] (c, σ, pr, τ) := id rfl
theorem T28_29 (F d f r0 : Nat) (x1 x2 : Int32) (c : Nat → Nat) (σ : mSg) (τ : mLg) :
    pL F d 28 (f + 3) 29 [(0, .inr (some (4, r0))), (1, .inl x1), (2, .inl x2)] [] (c, σ, pr, τ) = (if x2 < 4 then pL F d 28 f 34 [(0, .inr (some (4, r0))), (1, .inl x1), (2, .inl x2)] [] (c, σ, pr, τ) else pL F d 28 f 47 [(0, .inr (some (4, r0))), (1, .inl x1), (2, .inl x2)] [] (c, σ, pr, τ)) := id rfl
theorem T28_34 (F d f r0 : Nat) (x1 x2 : Int32) (c : Nat → Nat) (σ : mSg) (τ : mLg) :
    pL F d 28 (f + 7) 34 [(0, .inr (some (4, r0))), (1, .inl x1), (2, .inl x2)] [] (c, σ, pr, τ) = (if x2 < 0 ∨ 4 ≤ Int32.toNatClampNeg x2 then none else pL F d 28 f 29 [(0, .inr (some (4, r0))), (1, .inl x1), (2, .inl (x2 + 1))] [] (c, (mq_up σ 10 (2 * r0) (Int32.toNatClampNeg x2) 0), pr, τ)) := id rfl
theorem T28_47 (F d f r0 : Nat) (x1 x2 : Int32) (c : Nat → Nat) (σ : mSg) (τ : mLg) :
    pL F d 28 (f + 1) 47 [(0, .inr (some (4, r0))), (1, .inl x1), (2, .inl x2)] [] (c, σ, pr, τ) = some (.inl (none), (c, σ, pr, τ)) := id rfl
/-! PartitionKernel$Partition.rest(LPartitionKernel$Proc;)V -/
theorem T29 (F d r0 r1 : Nat) (c : Nat → Nat) (σ : mSg) (τ : mLg) :
    pX F (d + 1) 29 [.inr (some (4, r0)), .inr (some (5, r1))] (c, σ, pr, τ) = pL F d 29 F 0 [(0, .inr (some (4, r0))), (1, .inr (some (5, r1)))] [] (c, σ, pr, τ) := id rfl
theorem T29_0 (F d f r0 r1 : Nat) (c : Nat → Nat) (σ : mSg) (τ : mLg) :
    pL F d 29 (f + 9) 0 [(0, .inr (some (4, r0))), (1, .inr (some (5, r1)))] [] (c, σ, pr, τ) = mq_kv (pX F d 41 [.inr (some (4, r0)), .inr (some (5, r1)), .inl 0, .inl (-1), .inl (-1)] (c, (mq_up σ 5 r1 8 (-1)), pr, τ)) (fun w M => pL F d 29 f 13 [(0, .inr (some (4, r0))), (1, .inr (some (5, r1)))] (mq_psh w []) M) := id rfl
theorem T29_13 (F d f r0 r1 : Nat) (c : Nat → Nat) (σ : mSg) (τ : mLg) :
    pL F d 29 (f + 1) 13 [(0, .inr (some (4, r0))), (1, .inr (some (5, r1)))] [] (c, σ, pr, τ) = some (.inl (none), (c, σ, pr, τ)) := id rfl
/-! PartitionKernel$Partition.wake(I)V -/
theorem T30 (F d r0 : Nat) (x1 : Int32) (c : Nat → Nat) (σ : mSg) (τ : mLg) :
    pX F (d + 1) 30 [.inr (some (4, r0)), .inl x1] (c, σ, pr, τ) = pL F d 30 F 0 [(0, .inr (some (4, r0))), (1, .inl x1)] [] (c, σ, pr, τ) := id rfl
theorem T30_0 (F d f r0 : Nat) (x1 : Int32) (c : Nat → Nat) (σ : mSg) (τ : mLg) :
    pL F d 30 (f + 2) 0 [(0, .inr (some (4, r0))), (1, .inl x1)] [] (c, σ, pr, τ) = pL F d 30 f 2 [(0, .inr (some (4, r0))), (1, .inl x1), (2, .inl 0)] [] (c, σ, pr, τ) := id rfl
theorem T30_2 (F d f r0 : Nat) (x1 x2 : Int32) (c : Nat → Nat) (σ : mSg) (τ : mLg) :
    pL F d 30 (f + 4) 2 [(0, .inr (some (4, r0))), (1, .inl x1), (2, .inl x2)] [] (c, σ, pr, τ) = (if x2 < (σ 4 r0 5) then pL F d 30 f 10 [(0, .inr (some (4, r0))), (1, .inl x1), (2, .inl x2)] [] (c, σ, pr, τ) else pL F d 30 f 35 [(0, .inr (some (4, r0))), (1, .inl x1), (2, .inl x2)] [] (c, σ, pr, τ)) := id rfl
theorem T30_10 (F d f r0 : Nat) (x1 x2 : Int32) (c : Nat → Nat) (σ : mSg) (τ : mLg) :
    pL F d 30 (f + 3) 10 [(0, .inr (some (4, r0))), (1, .inl x1), (2, .inl x2)] [] (c, σ, pr, τ) = mq_kv (pX F d 40 [.inr (some (4, r0)), .inl x1] (c, σ, pr, τ)) (fun w M => pL F d 30 f 15 [(0, .inr (some (4, r0))), (1, .inl x1), (2, .inl x2)] (mq_psh w []) M) := id rfl
theorem T30_35 (F d f r0 : Nat) (x1 x2 : Int32) (c : Nat → Nat) (σ : mSg) (τ : mLg) :
    pL F d 30 (f + 1) 35 [(0, .inr (some (4, r0))), (1, .inl x1), (2, .inl x2)] [] (c, σ, pr, τ) = some (.inl (none), (c, σ, pr, τ)) := id rfl
theorem T30_15 (F d f r0 : Nat) (x1 x2 : Int32) (c : Nat → Nat) (σ : mSg) (τ : mLg) :
    pL F d 30 (f + 4) 15 [(0, .inr (some (4, r0))), (1, .inl x1), (2, .inl x2)] [.inr (.inl none)] (c, σ, pr, τ) = some (.inl (none), (c, σ, pr, τ)) := id rfl
theorem T30_15a (F d f r0 r_0 : Nat) (x1 x2 : Int32) (c : Nat → Nat) (σ : mSg) (τ : mLg) :
    pL F d 30 (f + 9) 15 [(0, .inr (some (4, r0))), (1, .inl x1), (2, .inl x2)] [.inr (.inl (some (5, r_0)))] (c, σ, pr, τ) = mq_kv (pX F d 41 [.inr (some (4, r0)), .inr (some (5, r_0)), .inl 1, .inl (-1), .inl (-1)] (c, σ, pr, τ)) (fun w M => pL F d 30 f 29 [(0, .inr (some (4, r0))), (1, .inl x1), (2, .inl x2), (3, .inr (some (5, r_0)))] (mq_psh w []) M) := id rfl
theorem T30_29 (F d f r0 r3 : Nat) (x1 x2 : Int32) (c : Nat → Nat) (σ : mSg) (τ : mLg) :
    pL F d 30 (f + 2) 29 [(0, .inr (some (4, r0))), (1, .inl x1), (2, .inl x2), (3, .inr (some (5, r3)))] [] (c, σ, pr, τ) = pL F d 30 f 2 [(0, .inr (some (4, r0))), (1, .inl x1), (2, .inl (x2 + 1)), (3, .inr (some (5, r3)))] [] (c, σ, pr, τ) := id rfl
theorem T30_2a (F d f r0 r3 : Nat) (x1 x2 : Int32) (c : Nat → Nat) (σ : mSg) (τ : mLg) :
    pL F d 30 (f + 4) 2 [(0, .inr (some (4, r0))), (1, .inl x1), (2, .inl x2), (3, .inr (some (5, r3)))] [] (c, σ, pr, τ) = (if x2 < (σ 4 r0 5) then pL F d 30 f 10 [(0, .inr (some (4, r0))), (1, .inl x1), (2, .inl x2), (3, .inr (some (5, r3)))] [] (c, σ, pr, τ) else pL F d 30 f 35 [(0, .inr (some (4, r0))), (1, .inl x1), (2, .inl x2), (3, .inr (some (5, r3)))] [] (c, σ, pr, τ)) := id rfl
theorem T30_10a (F d f r0 r3 : Nat) (x1 x2 : Int32) (c : Nat → Nat) (σ : mSg) (τ : mLg) :
    pL F d 30 (f + 3) 10 [(0, .inr (some (4, r0))), (1, .inl x1), (2, .inl x2), (3, .inr (some (5, r3)))] [] (c, σ, pr, τ) = mq_kv (pX F d 40 [.inr (some (4, r0)), .inl x1] (c, σ, pr, τ)) (fun w M => pL F d 30 f 15 [(0, .inr (some (4, r0))), (1, .inl x1), (2, .inl x2), (3, .inr (some (5, r3)))] (mq_psh w []) M) := id rfl
theorem T30_35a (F d f r0 r3 : Nat) (x1 x2 : Int32) (c : Nat → Nat) (σ : mSg) (τ : mLg) :
    pL F d 30 (f + 1) 35 [(0, .inr (some (4, r0))), (1, .inl x1), (2, .inl x2), (3, .inr (some (5, r3)))] [] (c, σ, pr, τ) = some (.inl (none), (c, σ, pr, τ)) := id rfl
theorem T30_15b (F d f r0 r3 : Nat) (x1 x2 : Int32) (c : Nat → Nat) (σ : mSg) (τ : mLg) :
    pL F d 30 (f + 4) 15 [(0, .inr (some (4, r0))), (1, .inl x1), (2, .inl x2), (3, .inr (some (5, r3)))] [.inr (.inl none)] (c, σ, pr, τ) = some (.inl (none), (c, σ, pr, τ)) := id rfl
theorem T30_15c (F d f r0 r3 r_0 : Nat) (x1 x2 : Int32) (c : Nat → Nat) (σ : mSg) (τ : mLg) :
    pL F d 30 (f + 9) 15 [(0, .inr (some (4, r0))), (1, .inl x1), (2, .inl x2), (3, .inr (some (5, r3)))] [.inr (.inl (some (5, r_0)))] (c, σ, pr, τ) = mq_kv (pX F d 41 [.inr (some (4, r0)), .inr (some (5, r_0)), .inl 1, .inl (-1), .inl (-1)] (c, σ, pr, τ)) (fun w M => pL F d 30 f 29 [(0, .inr (some (4, r0))), (1, .inl x1), (2, .inl x2), (3, .inr (some (5, r_0)))] (mq_psh w []) M) := id rfl
/-! PartitionKernel$Partition.first(II)LPartitionKernel$Proc; -/
theorem T31 (F d r0 : Nat) (x1 x2 : Int32) (c : Nat → Nat) (σ : mSg) (τ : mLg) :
    pX F (d + 1) 31 [.inr (some (4, r0)), .inl x1, .inl x2] (c, σ, pr, τ) = pL F d 31 F 0 [(0, .inr (some (4, r0))), (1, .inl x1), (2, .inl x2)] [] (c, σ, pr, τ) := id rfl
theorem T31_0 (F d f r0 : Nat) (x1 x2 : Int32) (c : Nat → Nat) (σ : mSg) (τ : mLg) :
    pL F d 31 (f + 4) 0 [(0, .inr (some (4, r0))), (1, .inl x1), (2, .inl x2)] [] (c, σ, pr, τ) = pL F d 31 f 5 [(0, .inr (some (4, r0))), (1, .inl x1), (2, .inl x2), (3, .inr none), (4, .inl 0)] [] (c, σ, pr, τ) := id rfl
theorem T31_5 (F d f r0 : Nat) (x1 x2 x4 : Int32) (c : Nat → Nat) (σ : mSg) (τ : mLg) :
    pL F d 31 (f + 4) 5 [(0, .inr (some (4, r0))), (1, .inl x1), (2, .inl x2), (3, .inr none), (4, .inl x4)] [] (c, σ, pr, τ) = (if x4 < (σ 4 r0 5) then pL F d 31 f 14 [(0, .inr (some (4, r0))), (1, .inl x1), (2, .inl x2), (3, .inr none), (4, .inl x4)] [] (c, σ, pr, τ) else pL F d 31 f 59 [(0, .inr (some (4, r0))), (1, .inl x1), (2, .inl x2), (3, .inr none), (4, .inl x4)] [] (c, σ, pr, τ)) := id rfl
theorem T31_14 (F d f r0 : Nat) (x1 x2 x4 : Int32) (c : Nat → Nat) (σ : mSg) (τ : mLg) :
    pL F d 31 (f + 9) 14 [(0, .inr (some (4, r0))), (1, .inl x1), (2, .inl x2), (3, .inr none), (4, .inl x4)] [] (c, σ, pr, τ) = (if x4 < 0 ∨ 8 ≤ Int32.toNatClampNeg x4 then none else (if (σ 5 (8 * r0 + Int32.toNatClampNeg x4) 7) = x1 then pL F d 31 f 32 [(0, .inr (some (4, r0))), (1, .inl x1), (2, .inl x2), (3, .inr none), (4, .inl x4), (5, .inr (some (5, (8 * r0 + Int32.toNatClampNeg x4))))] [] (c, σ, pr, τ) else pL F d 31 f 53 [(0, .inr (some (4, r0))), (1, .inl x1), (2, .inl x2), (3, .inr none), (4, .inl x4), (5, .inr (some (5, (8 * r0 + Int32.toNatClampNeg x4))))] [] (c, σ, pr, τ))) := id rfl
theorem T31_59 (F d f r0 : Nat) (x1 x2 x4 : Int32) (c : Nat → Nat) (σ : mSg) (τ : mLg) :
    pL F d 31 (f + 2) 59 [(0, .inr (some (4, r0))), (1, .inl x1), (2, .inl x2), (3, .inr none), (4, .inl x4)] [] (c, σ, pr, τ) = some (.inl (some (.inr none)), (c, σ, pr, τ)) := id rfl
theorem T31_32 (F d f r0 r5 : Nat) (x1 x2 x4 : Int32) (c : Nat → Nat) (σ : mSg) (τ : mLg) :
    pL F d 31 (f + 4) 32 [(0, .inr (some (4, r0))), (1, .inl x1), (2, .inl x2), (3, .inr none), (4, .inl x4), (5, .inr (some (5, r5)))] [] (c, σ, pr, τ) = (if (σ 5 r5 11) = x2 then pL F d 31 f 41 [(0, .inr (some (4, r0))), (1, .inl x1), (2, .inl x2), (3, .inr none), (4, .inl x4), (5, .inr (some (5, r5)))] [] (c, σ, pr, τ) else pL F d 31 f 53 [(0, .inr (some (4, r0))), (1, .inl x1), (2, .inl x2), (3, .inr none), (4, .inl x4), (5, .inr (some (5, r5)))] [] (c, σ, pr, τ)) := id rfl
theorem T31_53 (F d f r0 r5 : Nat) (x1 x2 x4 : Int32) (c : Nat → Nat) (σ : mSg) (τ : mLg) :
    pL F d 31 (f + 2) 53 [(0, .inr (some (4, r0))), (1, .inl x1), (2, .inl x2), (3, .inr none), (4, .inl x4), (5, .inr (some (5, r5)))] [] (c, σ, pr, τ) = pL F d 31 f 5 [(0, .inr (some (4, r0))), (1, .inl x1), (2, .inl x2), (3, .inr none), (4, .inl (x4 + 1)), (5, .inr (some (5, r5)))] [] (c, σ, pr, τ) := id rfl
theorem T31_41 (F d f r0 r5 : Nat) (x1 x2 x4 : Int32) (c : Nat → Nat) (σ : mSg) (τ : mLg) :
    pL F d 31 (f + 3) 41 [(0, .inr (some (4, r0))), (1, .inl x1), (2, .inl x2), (3, .inr none), (4, .inl x4), (5, .inr (some (5, r5)))] [] (c, σ, pr, τ) = mq_kv (pX F d 48 [.inr (some (5, r5)), .inr none] (c, σ, pr, τ)) (fun w M => pL F d 31 f 47 [(0, .inr (some (4, r0))), (1, .inl x1), (2, .inl x2), (3, .inr none), (4, .inl x4), (5, .inr (some (5, r5)))] (mq_psh w []) M) := id rfl
theorem T31_5a (F d f r0 r5 : Nat) (x1 x2 x4 : Int32) (c : Nat → Nat) (σ : mSg) (τ : mLg) :
    pL F d 31 (f + 4) 5 [(0, .inr (some (4, r0))), (1, .inl x1), (2, .inl x2), (3, .inr none), (4, .inl x4), (5, .inr (some (5, r5)))] [] (c, σ, pr, τ) = (if x4 < (σ 4 r0 5) then pL F d 31 f 14 [(0, .inr (some (4, r0))), (1, .inl x1), (2, .inl x2), (3, .inr none), (4, .inl x4), (5, .inr (some (5, r5)))] [] (c, σ, pr, τ) else pL F d 31 f 59 [(0, .inr (some (4, r0))), (1, .inl x1), (2, .inl x2), (3, .inr none), (4, .inl x4), (5, .inr (some (5, r5)))] [] (c, σ, pr, τ)) := id rfl
theorem T31_47 (F d f r0 r5 : Nat) (x1 x2 x4 x_0 : Int32) (c : Nat → Nat) (σ : mSg) (τ : mLg) :
    pL F d 31 (f + 1) 47 [(0, .inr (some (4, r0))), (1, .inl x1), (2, .inl x2), (3, .inr none), (4, .inl x4), (5, .inr (some (5, r5)))] [.inl x_0] (c, σ, pr, τ) = (if x_0 = 0 then pL F d 31 f 53 [(0, .inr (some (4, r0))), (1, .inl x1), (2, .inl x2), (3, .inr none), (4, .inl x4), (5, .inr (some (5, r5)))] [] (c, σ, pr, τ) else pL F d 31 f 50 [(0, .inr (some (4, r0))), (1, .inl x1), (2, .inl x2), (3, .inr none), (4, .inl x4), (5, .inr (some (5, r5)))] [] (c, σ, pr, τ)) := id rfl
theorem T31_14a (F d f r0 r5 : Nat) (x1 x2 x4 : Int32) (c : Nat → Nat) (σ : mSg) (τ : mLg) :
    pL F d 31 (f + 9) 14 [(0, .inr (some (4, r0))), (1, .inl x1), (2, .inl x2), (3, .inr none), (4, .inl x4), (5, .inr (some (5, r5)))] [] (c, σ, pr, τ) = (if x4 < 0 ∨ 8 ≤ Int32.toNatClampNeg x4 then none else (if (σ 5 (8 * r0 + Int32.toNatClampNeg x4) 7) = x1 then pL F d 31 f 32 [(0, .inr (some (4, r0))), (1, .inl x1), (2, .inl x2), (3, .inr none), (4, .inl x4), (5, .inr (some (5, (8 * r0 + Int32.toNatClampNeg x4))))] [] (c, σ, pr, τ) else pL F d 31 f 53 [(0, .inr (some (4, r0))), (1, .inl x1), (2, .inl x2), (3, .inr none), (4, .inl x4), (5, .inr (some (5, (8 * r0 + Int32.toNatClampNeg x4))))] [] (c, σ, pr, τ))) := id rfl
theorem T31_59a (F d f r0 r5 : Nat) (x1 x2 x4 : Int32) (c : Nat → Nat) (σ : mSg) (τ : mLg) :
    pL F d 31 (f + 2) 59 [(0, .inr (some (4, r0))), (1, .inl x1), (2, .inl x2), (3, .inr none), (4, .inl x4), (5, .inr (some (5, r5)))] [] (c, σ, pr, τ) = some (.inl (some (.inr none)), (c, σ, pr, τ)) := id rfl
theorem T31_50 (F d f r0 r5 : Nat) (x1 x2 x4 : Int32) (c : Nat → Nat) (σ : mSg) (τ : mLg) :
    pL F d 31 (f + 4) 50 [(0, .inr (some (4, r0))), (1, .inl x1), (2, .inl x2), (3, .inr none), (4, .inl x4), (5, .inr (some (5, r5)))] [] (c, σ, pr, τ) = pL F d 31 f 5 [(0, .inr (some (4, r0))), (1, .inl x1), (2, .inl x2), (3, .inr (some (5, r5))), (4, .inl (x4 + 1)), (5, .inr (some (5, r5)))] [] (c, σ, pr, τ) := id rfl
theorem T31_5b (F d f r0 r3 r5 : Nat) (x1 x2 x4 : Int32) (c : Nat → Nat) (σ : mSg) (τ : mLg) :
    pL F d 31 (f + 4) 5 [(0, .inr (some (4, r0))), (1, .inl x1), (2, .inl x2), (3, .inr (some (5, r3))), (4, .inl x4), (5, .inr (some (5, r5)))] [] (c, σ, pr, τ) = (if x4 < (σ 4 r0 5) then pL F d 31 f 14 [(0, .inr (some (4, r0))), (1, .inl x1), (2, .inl x2), (3, .inr (some (5, r3))), (4, .inl x4), (5, .inr (some (5, r5)))] [] (c, σ, pr, τ) else pL F d 31 f 59 [(0, .inr (some (4, r0))), (1, .inl x1), (2, .inl x2), (3, .inr (some (5, r3))), (4, .inl x4), (5, .inr (some (5, r5)))] [] (c, σ, pr, τ)) := id rfl
theorem T31_14b (F d f r0 r3 r5 : Nat) (x1 x2 x4 : Int32) (c : Nat → Nat) (σ : mSg) (τ : mLg) :
    pL F d 31 (f + 9) 14 [(0, .inr (some (4, r0))), (1, .inl x1), (2, .inl x2), (3, .inr (some (5, r3))), (4, .inl x4), (5, .inr (some (5, r5)))] [] (c, σ, pr, τ) = (if x4 < 0 ∨ 8 ≤ Int32.toNatClampNeg x4 then none else (if (σ 5 (8 * r0 + Int32.toNatClampNeg x4) 7) = x1 then pL F d 31 f 32 [(0, .inr (some (4, r0))), (1, .inl x1), (2, .inl x2), (3, .inr (some (5, r3))), (4, .inl x4), (5, .inr (some (5, (8 * r0 + Int32.toNatClampNeg x4))))] [] (c, σ, pr, τ) else pL F d 31 f 53 [(0, .inr (some (4, r0))), (1, .inl x1), (2, .inl x2), (3, .inr (some (5, r3))), (4, .inl x4), (5, .inr (some (5, (8 * r0 + Int32.toNatClampNeg x4))))] [] (c, σ, pr, τ))) := id rfl
theorem T31_59b (F d f r0 r3 r5 : Nat) (x1 x2 x4 : Int32) (c : Nat → Nat) (σ : mSg) (τ : mLg) :
    pL F d 31 (f + 2) 59 [(0, .inr (some (4, r0))), (1, .inl x1), (2, .inl x2), (3, .inr (some (5, r3))), (4, .inl x4), (5, .inr (some (5, r5)))] [] (c, σ, pr, τ) = some (.inl (some (.inr (some (5, r3)))), (c, σ, pr, τ)) := id rfl
theorem T31_32a (F d f r0 r3 r5 : Nat) (x1 x2 x4 : Int32) (c : Nat → Nat) (σ : mSg) (τ : mLg) :
    pL F d 31 (f + 4) 32 [(0, .inr (some (4, r0))), (1, .inl x1), (2, .inl x2), (3, .inr (some (5, r3))), (4, .inl x4), (5, .inr (some (5, r5)))] [] (c, σ, pr, τ) = (if (σ 5 r5 11) = x2 then pL F d 31 f 41 [(0, .inr (some (4, r0))), (1, .inl x1), (2, .inl x2), (3, .inr (some (5, r3))), (4, .inl x4), (5, .inr (some (5, r5)))] [] (c, σ, pr, τ) else pL F d 31 f 53 [(0, .inr (some (4, r0))), (1, .inl x1), (2, .inl x2), (3, .inr (some (5, r3))), (4, .inl x4), (5, .inr (some (5, r5)))] [] (c, σ, pr, τ)) := id rfl
theorem T31_53a (F d f r0 r3 r5 : Nat) (x1 x2 x4 : Int32) (c : Nat → Nat) (σ : mSg) (τ : mLg) :
    pL F d 31 (f + 2) 53 [(0, .inr (some (4, r0))), (1, .inl x1), (2, .inl x2), (3, .inr (some (5, r3))), (4, .inl x4), (5, .inr (some (5, r5)))] [] (c, σ, pr, τ) = pL F d 31 f 5 [(0, .inr (some (4, r0))), (1, .inl x1), (2, .inl x2), (3, .inr (some (5, r3))), (4, .inl (x4 + 1)), (5, .inr (some (5, r5)))] [] (c, σ, pr, τ) := id rfl
theorem T31_41a (F d f r0 r3 r5 : Nat) (x1 x2 x4 : Int32) (c : Nat → Nat) (σ : mSg) (τ : mLg) :
    pL F d 31 (f + 3) 41 [(0, .inr (some (4, r0))), (1, .inl x1), (2, .inl x2), (3, .inr (some (5, r3))), (4, .inl x4), (5, .inr (some (5, r5)))] [] (c, σ, pr, τ) = mq_kv (pX F d 48 [.inr (some (5, r5)), .inr (some (5, r3))] (c, σ, pr, τ)) (fun w M => pL F d 31 f 47 [(0, .inr (some (4, r0))), (1, .inl x1), (2, .inl x2), (3, .inr (some (5, r3))), (4, .inl x4), (5, .inr (some (5, r5)))] (mq_psh w []) M) := id rfl
theorem T31_47a (F d f r0 r3 r5 : Nat) (x1 x2 x4 x_0 : Int32) (c : Nat → Nat) (σ : mSg) (τ : mLg) :
    pL F d 31 (f + 1) 47 [(0, .inr (some (4, r0))), (1, .inl x1), (2, .inl x2), (3, .inr (some (5, r3))), (4, .inl x4), (5, .inr (some (5, r5)))] [.inl x_0] (c, σ, pr, τ) = (if x_0 = 0 then pL F d 31 f 53 [(0, .inr (some (4, r0))), (1, .inl x1), (2, .inl x2), (3, .inr (some (5, r3))), (4, .inl x4), (5, .inr (some (5, r5)))] [] (c, σ, pr, τ) else pL F d 31 f 50 [(0, .inr (some (4, r0))), (1, .inl x1), (2, .inl x2), (3, .inr (some (5, r3))), (4, .inl x4), (5, .inr (some (5, r5)))] [] (c, σ, pr, τ)) := id rfl
theorem T31_50a (F d f r0 r3 r5 : Nat) (x1 x2 x4 : Int32) (c : Nat → Nat) (σ : mSg) (τ : mLg) :
    pL F d 31 (f + 4) 50 [(0, .inr (some (4, r0))), (1, .inl x1), (2, .inl x2), (3, .inr (some (5, r3))), (4, .inl x4), (5, .inr (some (5, r5)))] [] (c, σ, pr, τ) = pL F d 31 f 5 [(0, .inr (some (4, r0))), (1, .inl x1), (2, .inl x2), (3, .inr (some (5, r5))), (4, .inl (x4 + 1)), (5, .inr (some (5, r5)))] [] (c, σ, pr, τ) := id rfl
/-! PartitionKernel$Partition.awaitRelease(LPartitionKernel$Proc;)I -/
theorem T32 (F d r0 r1 : Nat) (c : Nat → Nat) (σ : mSg) (τ : mLg) :
    pX F (d + 1) 32 [.inr (some (4, r0)), .inr (some (5, r1))] (c, σ, pr, τ) = pL F d 32 F 0 [(0, .inr (some (4, r0))), (1, .inr (some (5, r1)))] [] (c, σ, pr, τ) := id rfl
theorem T32_0 (F d f r0 r1 : Nat) (c : Nat → Nat) (σ : mSg) (τ : mLg) :
    pL F d 32 (f + 3) 0 [(0, .inr (some (4, r0))), (1, .inr (some (5, r1)))] [] (c, σ, pr, τ) = (if (σ 5 r1 4) = 0 then pL F d 32 f 7 [(0, .inr (some (4, r0))), (1, .inr (some (5, r1)))] [] (c, σ, pr, τ) else pL F d 32 f 9 [(0, .inr (some (4, r0))), (1, .inr (some (5, r1)))] [] (c, σ, pr, τ)) := id rfl
theorem T32_7 (F d f r0 r1 : Nat) (c : Nat → Nat) (σ : mSg) (τ : mLg) :
    pL F d 32 (f + 2) 7 [(0, .inr (some (4, r0))), (1, .inr (some (5, r1)))] [] (c, σ, pr, τ) = some (.inl (some (.inl 1)), (c, σ, pr, τ)) := id rfl
theorem T32_9 (F d f r0 r1 : Nat) (c : Nat → Nat) (σ : mSg) (τ : mLg) :
    pL F d 32 (f + 7) 9 [(0, .inr (some (4, r0))), (1, .inr (some (5, r1)))] [] (c, σ, pr, τ) = mq_kv (pX F d 46 [.inr (some (5, r1)), .inl ((σ 5 r1 9) + (σ 5 r1 4))] (c, σ, pr, τ)) (fun w M => pL F d 32 f 22 [(0, .inr (some (4, r0))), (1, .inr (some (5, r1)))] (mq_psh w []) M) := id rfl
theorem T32_22 (F d f r0 r1 : Nat) (c : Nat → Nat) (σ : mSg) (τ : mLg) :
    pL F d 32 (f + 7) 22 [(0, .inr (some (4, r0))), (1, .inr (some (5, r1)))] [] (c, σ, pr, τ) = mq_kv (pX F d 41 [.inr (some (4, r0)), .inr (some (5, r1)), .inl 2, .inl (σ 5 r1 9), .inl (-1)] (c, σ, pr, τ)) (fun w M => pL F d 32 f 33 [(0, .inr (some (4, r0))), (1, .inr (some (5, r1)))] (mq_psh w []) M) := id rfl
theorem T32_33 (F d f r0 r1 : Nat) (c : Nat → Nat) (σ : mSg) (τ : mLg) :
    pL F d 32 (f + 2) 33 [(0, .inr (some (4, r0))), (1, .inr (some (5, r1)))] [] (c, σ, pr, τ) = some (.inl (some (.inl 0)), (c, σ, pr, τ)) := id rfl
/-! PartitionKernel$Partition.awaitSpan(LPartitionKernel$Proc;II)I -/
theorem T33 (F d r0 r1 : Nat) (x2 x3 : Int32) (c : Nat → Nat) (σ : mSg) (τ : mLg) :
    pX F (d + 1) 33 [.inr (some (4, r0)), .inr (some (5, r1)), .inl x2, .inl x3] (c, σ, pr, τ) = pL F d 33 F 0 [(0, .inr (some (4, r0))), (1, .inr (some (5, r1))), (2, .inl x2), (3, .inl x3)] [] (c, σ, pr, τ) := id rfl
theorem T33_0 (F d f r0 r1 : Nat) (x2 x3 : Int32) (c : Nat → Nat) (σ : mSg) (τ : mLg) :
    pL F d 33 (f + 2) 0 [(0, .inr (some (4, r0))), (1, .inr (some (5, r1))), (2, .inl x2), (3, .inl x3)] [] (c, σ, pr, τ) = mq_ks (pX F d 88 [.inl x2] (c, σ, pr, τ)) (fun w M => pL F d 33 f 4 [(0, .inr (some (4, r0))), (1, .inr (some (5, r1))), (2, .inl x2), (3, .inl x3)] (mq_psh w []) M) := id rfl
theorem T33_4 (F d f r0 r1 : Nat) (x2 x3 x_0 : Int32) (c : Nat → Nat) (σ : mSg) (τ : mLg) :
    pL F d 33 (f + 1) 4 [(0, .inr (some (4, r0))), (1, .inr (some (5, r1))), (2, .inl x2), (3, .inl x3)] [.inl x_0] (c, σ, pr, τ) = (if x_0 = 0 then pL F d 33 f 7 [(0, .inr (some (4, r0))), (1, .inr (some (5, r1))), (2, .inl x2), (3, .inl x3)] [] (c, σ, pr, τ) else pL F d 33 f 9 [(0, .inr (some (4, r0))), (1, .inr (some (5, r1))), (2, .inl x2), (3, .inl x3)] [] (c, σ, pr, τ)) := id rfl
theorem T33_7 (F d f r0 r1 : Nat) (x2 x3 : Int32) (c : Nat → Nat) (σ : mSg) (τ : mLg) :
    pL F d 33 (f + 2) 7 [(0, .inr (some (4, r0))), (1, .inr (some (5, r1))), (2, .inl x2), (3, .inl x3)] [] (c, σ, pr, τ) = some (.inl (some (.inl 1)), (c, σ, pr, τ)) := id rfl
theorem T33_9 (F d f r0 r1 : Nat) (x2 x3 : Int32) (c : Nat → Nat) (σ : mSg) (τ : mLg) :
    pL F d 33 (f + 8) 9 [(0, .inr (some (4, r0))), (1, .inr (some (5, r1))), (2, .inl x2), (3, .inl x3)] [] (c, σ, pr, τ) = mq_kv (pX F d 41 [.inr (some (4, r0)), .inr (some (5, r1)), .inl 2, .inl (x3 + x2), .inl (-1)] (c, σ, pr, τ)) (fun w M => pL F d 33 f 19 [(0, .inr (some (4, r0))), (1, .inr (some (5, r1))), (2, .inl x2), (3, .inl x3)] (mq_psh w []) M) := id rfl
theorem T33_19 (F d f r0 r1 : Nat) (x2 x3 : Int32) (c : Nat → Nat) (σ : mSg) (τ : mLg) :
    pL F d 33 (f + 2) 19 [(0, .inr (some (4, r0))), (1, .inr (some (5, r1))), (2, .inl x2), (3, .inl x3)] [] (c, σ, pr, τ) = some (.inl (some (.inl 0)), (c, σ, pr, τ)) := id rfl
/-! PartitionKernel$Partition.startDormant(II)I -/
theorem T34 (F d r0 : Nat) (x1 x2 : Int32) (c : Nat → Nat) (σ : mSg) (τ : mLg) :
    pX F (d + 1) 34 [.inr (some (4, r0)), .inl x1, .inl x2] (c, σ, pr, τ) = pL F d 34 F 0 [(0, .inr (some (4, r0))), (1, .inl x1), (2, .inl x2)] [] (c, σ, pr, τ) := id rfl
theorem T34_0 (F d f r0 : Nat) (x1 x2 : Int32) (c : Nat → Nat) (σ : mSg) (τ : mLg) :
    pL F d 34 (f + 3) 0 [(0, .inr (some (4, r0))), (1, .inl x1), (2, .inl x2)] [] (c, σ, pr, τ) = mq_kv (pX F d 24 [.inr (some (4, r0)), .inl x1] (c, σ, pr, τ)) (fun w M => pL F d 34 f 5 [(0, .inr (some (4, r0))), (1, .inl x1), (2, .inl x2)] (mq_psh w []) M) := id rfl
theorem T34_5 (F d f r0 : Nat) (x1 x2 : Int32) (c : Nat → Nat) (σ : mSg) (τ : mLg) :
    pL F d 34 (f + 5) 5 [(0, .inr (some (4, r0))), (1, .inl x1), (2, .inl x2)] [.inr (.inl none)] (c, σ, pr, τ) = some (.inl (some (.inl 1)), (c, σ, pr, τ)) := id rfl
theorem T34_5a (F d f r0 r_0 : Nat) (x1 x2 : Int32) (c : Nat → Nat) (σ : mSg) (τ : mLg) :
    pL F d 34 (f + 6) 5 [(0, .inr (some (4, r0))), (1, .inl x1), (2, .inl x2)] [.inr (.inl (some (5, r_0)))] (c, σ, pr, τ) = (if (σ 5 r_0 7) = 0 then pL F d 34 f 19 [(0, .inr (some (4, r0))), (1, .inl x1), (2, .inl x2), (3, .inr (some (5, r_0)))] [] (c, σ, pr, τ) else pL F d 34 f 17 [(0, .inr (some (4, r0))), (1, .inl x1), (2, .inl x2), (3, .inr (some (5, r_0)))] [] (c, σ, pr, τ)) := id rfl
theorem T34_19 (F d f r0 r3 : Nat) (x1 x2 : Int32) (c : Nat → Nat) (σ : mSg) (τ : mLg) :
    pL F d 34 (f + 4) 19 [(0, .inr (some (4, r0))), (1, .inl x1), (2, .inl x2), (3, .inr (some (5, r3)))] [] (c, σ, pr, τ) = mq_kv (pX F d 27 [.inr (some (4, r0)), .inr (some (5, r3)), .inl x2] (c, σ, pr, τ)) (fun w M => pL F d 34 f 25 [(0, .inr (some (4, r0))), (1, .inl x1), (2, .inl x2), (3, .inr (some (5, r3)))] (mq_psh w []) M) := id rfl
theorem T34_17 (F d f r0 r3 : Nat) (x1 x2 : Int32) (c : Nat → Nat) (σ : mSg) (τ : mLg) :
    pL F d 34 (f + 2) 17 [(0, .inr (some (4, r0))), (1, .inl x1), (2, .inl x2), (3, .inr (some (5, r3)))] [] (c, σ, pr, τ) = some (.inl (some (.inl 1)), (c, σ, pr, τ)) := id rfl
theorem T34_25 (F d f r0 r3 : Nat) (x1 x2 : Int32) (c : Nat → Nat) (σ : mSg) (τ : mLg) :
    pL F d 34 (f + 2) 25 [(0, .inr (some (4, r0))), (1, .inl x1), (2, .inl x2), (3, .inr (some (5, r3)))] [] (c, σ, pr, τ) = some (.inl (some (.inl 0)), (c, σ, pr, τ)) := id rfl
/-! PartitionKernel$Partition.setPriority(II)I -/
theorem T35 (F d r0 : Nat) (x1 x2 : Int32) (c : Nat → Nat) (σ : mSg) (τ : mLg) :
    pX F (d + 1) 35 [.inr (some (4, r0)), .inl x1, .inl x2] (c, σ, pr, τ) = pL F d 35 F 0 [(0, .inr (some (4, r0))), (1, .inl x1), (2, .inl x2)] [] (c, σ, pr, τ) := id rfl
theorem T35_0 (F d f r0 : Nat) (x1 x2 : Int32) (c : Nat → Nat) (σ : mSg) (τ : mLg) :
    pL F d 35 (f + 3) 0 [(0, .inr (some (4, r0))), (1, .inl x1), (2, .inl x2)] [] (c, σ, pr, τ) = mq_kv (pX F d 24 [.inr (some (4, r0)), .inl x1] (c, σ, pr, τ)) (fun w M => pL F d 35 f 5 [(0, .inr (some (4, r0))), (1, .inl x1), (2, .inl x2)] (mq_psh w []) M) := id rfl
theorem T35_5 (F d f r0 : Nat) (x1 x2 : Int32) (c : Nat → Nat) (σ : mSg) (τ : mLg) :
    pL F d 35 (f + 5) 5 [(0, .inr (some (4, r0))), (1, .inl x1), (2, .inl x2)] [.inr (.inl none)] (c, σ, pr, τ) = some (.inl (some (.inl 1)), (c, σ, pr, τ)) := id rfl
theorem T35_5a (F d f r0 r_0 : Nat) (x1 x2 : Int32) (c : Nat → Nat) (σ : mSg) (τ : mLg) :
    pL F d 35 (f + 5) 5 [(0, .inr (some (4, r0))), (1, .inl x1), (2, .inl x2)] [.inr (.inl (some (5, r_0)))] (c, σ, pr, τ) = mq_ks (pX F d 87 [.inl x2] (c, σ, pr, τ)) (fun w M => pL F d 35 f 14 [(0, .inr (some (4, r0))), (1, .inl x1), (2, .inl x2), (3, .inr (some (5, r_0)))] (mq_psh w []) M) := id rfl
theorem T35_14 (F d f r0 r3 : Nat) (x1 x2 x_0 : Int32) (c : Nat → Nat) (σ : mSg) (τ : mLg) :
    pL F d 35 (f + 1) 14 [(0, .inr (some (4, r0))), (1, .inl x1), (2, .inl x2), (3, .inr (some (5, r3)))] [.inl x_0] (c, σ, pr, τ) = (if x_0 = 0 then pL F d 35 f 17 [(0, .inr (some (4, r0))), (1, .inl x1), (2, .inl x2), (3, .inr (some (5, r3)))] [] (c, σ, pr, τ) else pL F d 35 f 19 [(0, .inr (some (4, r0))), (1, .inl x1), (2, .inl x2), (3, .inr (some (5, r3)))] [] (c, σ, pr, τ)) := id rfl
theorem T35_17 (F d f r0 r3 : Nat) (x1 x2 : Int32) (c : Nat → Nat) (σ : mSg) (τ : mLg) :
    pL F d 35 (f + 2) 17 [(0, .inr (some (4, r0))), (1, .inl x1), (2, .inl x2), (3, .inr (some (5, r3)))] [] (c, σ, pr, τ) = some (.inl (some (.inl 1)), (c, σ, pr, τ)) := id rfl
theorem T35_19 (F d f r0 r3 : Nat) (x1 x2 : Int32) (c : Nat → Nat) (σ : mSg) (τ : mLg) :
    pL F d 35 (f + 5) 19 [(0, .inr (some (4, r0))), (1, .inl x1), (2, .inl x2), (3, .inr (some (5, r3)))] [] (c, σ, pr, τ) = some (.inl (some (.inl 0)), (c, (mq_up σ 5 r3 3 x2), pr, τ)) := id rfl
/-! PartitionKernel$Partition.takeSemaphore(LPartitionKernel$Proc;I)I -/
theorem T36 (F d r0 r1 : Nat) (x2 : Int32) (c : Nat → Nat) (σ : mSg) (τ : mLg) :
    pX F (d + 1) 36 [.inr (some (4, r0)), .inr (some (5, r1)), .inl x2] (c, σ, pr, τ) = pL F d 36 F 0 [(0, .inr (some (4, r0))), (1, .inr (some (5, r1))), (2, .inl x2)] [] (c, σ, pr, τ) := id rfl
theorem T36_0 (F d f r0 r1 : Nat) (x2 : Int32) (c : Nat → Nat) (σ : mSg) (τ : mLg) :
    pL F d 36 (f + 2) 0 [(0, .inr (some (4, r0))), (1, .inr (some (5, r1))), (2, .inl x2)] [] (c, σ, pr, τ) = mq_ks (pX F d 39 [.inl x2] (c, σ, pr, τ)) (fun w M => pL F d 36 f 4 [(0, .inr (some (4, r0))), (1, .inr (some (5, r1))), (2, .inl x2)] (mq_psh w []) M) := id rfl
theorem T36_4 (F d f r0 r1 : Nat) (x2 x_0 : Int32) (c : Nat → Nat) (σ : mSg) (τ : mLg) :
    pL F d 36 (f + 1) 4 [(0, .inr (some (4, r0))), (1, .inr (some (5, r1))), (2, .inl x2)] [.inl x_0] (c, σ, pr, τ) = (if x_0 = 0 then pL F d 36 f 7 [(0, .inr (some (4, r0))), (1, .inr (some (5, r1))), (2, .inl x2)] [] (c, σ, pr, τ) else pL F d 36 f 9 [(0, .inr (some (4, r0))), (1, .inr (some (5, r1))), (2, .inl x2)] [] (c, σ, pr, τ)) := id rfl
theorem T36_7 (F d f r0 r1 : Nat) (x2 : Int32) (c : Nat → Nat) (σ : mSg) (τ : mLg) :
    pL F d 36 (f + 2) 7 [(0, .inr (some (4, r0))), (1, .inr (some (5, r1))), (2, .inl x2)] [] (c, σ, pr, τ) = some (.inl (some (.inl 1)), (c, σ, pr, τ)) := id rfl
theorem T36_9 (F d f r0 r1 : Nat) (x2 : Int32) (c : Nat → Nat) (σ : mSg) (τ : mLg) :
    pL F d 36 (f + 5) 9 [(0, .inr (some (4, r0))), (1, .inr (some (5, r1))), (2, .inl x2)] [] (c, σ, pr, τ) = (if x2 < 0 ∨ 4 ≤ Int32.toNatClampNeg x2 then none else (if 0 < (σ 10 (2 * r0) (Int32.toNatClampNeg x2)) then pL F d 36 f 18 [(0, .inr (some (4, r0))), (1, .inr (some (5, r1))), (2, .inl x2)] [] (c, σ, pr, τ) else pL F d 36 f 31 [(0, .inr (some (4, r0))), (1, .inr (some (5, r1))), (2, .inl x2)] [] (c, σ, pr, τ))) := id rfl
theorem T36_18 (F d f r0 r1 : Nat) (x2 : Int32) (c : Nat → Nat) (σ : mSg) (τ : mLg) :
    pL F d 36 (f + 11) 18 [(0, .inr (some (4, r0))), (1, .inr (some (5, r1))), (2, .inl x2)] [] (c, σ, pr, τ) = (if x2 < 0 ∨ 4 ≤ Int32.toNatClampNeg x2 then none else (if x2 < 0 ∨ 4 ≤ Int32.toNatClampNeg x2 then none else some (.inl (some (.inl 0)), (c, (mq_up σ 10 (2 * r0) (Int32.toNatClampNeg x2) ((σ 10 (2 * r0) (Int32.toNatClampNeg x2)) - 1)), pr, τ)))) := id rfl
theorem T36_31 (F d f r0 r1 : Nat) (x2 : Int32) (c : Nat → Nat) (σ : mSg) (τ : mLg) :
    pL F d 36 (f + 6) 31 [(0, .inr (some (4, r0))), (1, .inr (some (5, r1))), (2, .inl x2)] [] (c, σ, pr, τ) = mq_kv (pX F d 41 [.inr (some (4, r0)), .inr (some (5, r1)), .inl 3, .inl (-1), .inl x2] (c, σ, pr, τ)) (fun w M => pL F d 36 f 39 [(0, .inr (some (4, r0))), (1, .inr (some (5, r1))), (2, .inl x2)] (mq_psh w []) M) := id rfl
theorem T36_39 (F d f r0 r1 : Nat) (x2 : Int32) (c : Nat → Nat) (σ : mSg) (τ : mLg) :
    pL F d 36 (f + 2) 39 [(0, .inr (some (4, r0))), (1, .inr (some (5, r1))), (2, .inl x2)] [] (c, σ, pr, τ) = some (.inl (some (.inl 0)), (c, σ, pr, τ)) := id rfl
/-! PartitionKernel$Partition.giveSemaphore(I)I -/
theorem T37 (F d r0 : Nat) (x1 : Int32) (c : Nat → Nat) (σ : mSg) (τ : mLg) :
    pX F (d + 1) 37 [.inr (some (4, r0)), .inl x1] (c, σ, pr, τ) = pL F d 37 F 0 [(0, .inr (some (4, r0))), (1, .inl x1)] [] (c, σ, pr, τ) := id rfl
theorem T37_0 (F d f r0 : Nat) (x1 : Int32) (c : Nat → Nat) (σ : mSg) (τ : mLg) :
    pL F d 37 (f + 2) 0 [(0, .inr (some (4, r0))), (1, .inl x1)] [] (c, σ, pr, τ) = mq_ks (pX F d 39 [.inl x1] (c, σ, pr, τ)) (fun w M => pL F d 37 f 4 [(0, .inr (some (4, r0))), (1, .inl x1)] (mq_psh w []) M) := id rfl
theorem T37_4 (F d f r0 : Nat) (x1 x_0 : Int32) (c : Nat → Nat) (σ : mSg) (τ : mLg) :
    pL F d 37 (f + 1) 4 [(0, .inr (some (4, r0))), (1, .inl x1)] [.inl x_0] (c, σ, pr, τ) = (if x_0 = 0 then pL F d 37 f 7 [(0, .inr (some (4, r0))), (1, .inl x1)] [] (c, σ, pr, τ) else pL F d 37 f 9 [(0, .inr (some (4, r0))), (1, .inl x1)] [] (c, σ, pr, τ)) := id rfl
theorem T37_7 (F d f r0 : Nat) (x1 : Int32) (c : Nat → Nat) (σ : mSg) (τ : mLg) :
    pL F d 37 (f + 2) 7 [(0, .inr (some (4, r0))), (1, .inl x1)] [] (c, σ, pr, τ) = some (.inl (some (.inl 1)), (c, σ, pr, τ)) := id rfl
theorem T37_9 (F d f r0 : Nat) (x1 : Int32) (c : Nat → Nat) (σ : mSg) (τ : mLg) :
    pL F d 37 (f + 4) 9 [(0, .inr (some (4, r0))), (1, .inl x1)] [] (c, σ, pr, τ) = mq_kv (pX F d 31 [.inr (some (4, r0)), .inl 3, .inl x1] (c, σ, pr, τ)) (fun w M => pL F d 37 f 15 [(0, .inr (some (4, r0))), (1, .inl x1)] (mq_psh w []) M) := id rfl
theorem T37_15 (F d f r0 : Nat) (x1 : Int32) (c : Nat → Nat) (σ : mSg) (τ : mLg) :
    pL F d 37 (f + 9) 15 [(0, .inr (some (4, r0))), (1, .inl x1)] [.inr (.inl none)] (c, σ, pr, τ) = (if x1 < 0 ∨ 4 ≤ Int32.toNatClampNeg x1 then none else (if (σ 10 (2 * r0) (Int32.toNatClampNeg x1)) < 1000 then pL F d 37 f 44 [(0, .inr (some (4, r0))), (1, .inl x1), (2, .inr none)] [] (c, σ, pr, τ) else pL F d 37 f 42 [(0, .inr (some (4, r0))), (1, .inl x1), (2, .inr none)] [] (c, σ, pr, τ))) := id rfl
theorem T37_15a (F d f r0 r_0 : Nat) (x1 : Int32) (c : Nat → Nat) (σ : mSg) (τ : mLg) :
    pL F d 37 (f + 9) 15 [(0, .inr (some (4, r0))), (1, .inl x1)] [.inr (.inl (some (5, r_0)))] (c, σ, pr, τ) = mq_kv (pX F d 41 [.inr (some (4, r0)), .inr (some (5, r_0)), .inl 1, .inl (-1), .inl (-1)] (c, σ, pr, τ)) (fun w M => pL F d 37 f 28 [(0, .inr (some (4, r0))), (1, .inl x1), (2, .inr (some (5, r_0)))] (mq_psh w []) M) := id rfl
theorem T37_44 (F d f r0 : Nat) (x1 : Int32) (c : Nat → Nat) (σ : mSg) (τ : mLg) :
    pL F d 37 (f + 10) 44 [(0, .inr (some (4, r0))), (1, .inl x1), (2, .inr none)] [] (c, σ, pr, τ) = (if x1 < 0 ∨ 4 ≤ Int32.toNatClampNeg x1 then none else (if x1 < 0 ∨ 4 ≤ Int32.toNatClampNeg x1 then none else some (.inl (some (.inl 0)), (c, (mq_up σ 10 (2 * r0) (Int32.toNatClampNeg x1) ((σ 10 (2 * r0) (Int32.toNatClampNeg x1)) + 1)), pr, τ)))) := id rfl
theorem T37_42 (F d f r0 : Nat) (x1 : Int32) (c : Nat → Nat) (σ : mSg) (τ : mLg) :
    pL F d 37 (f + 2) 42 [(0, .inr (some (4, r0))), (1, .inl x1), (2, .inr none)] [] (c, σ, pr, τ) = some (.inl (some (.inl 1)), (c, σ, pr, τ)) := id rfl
theorem T37_28 (F d f r0 r2 : Nat) (x1 : Int32) (c : Nat → Nat) (σ : mSg) (τ : mLg) :
    pL F d 37 (f + 2) 28 [(0, .inr (some (4, r0))), (1, .inl x1), (2, .inr (some (5, r2)))] [] (c, σ, pr, τ) = some (.inl (some (.inl 0)), (c, σ, pr, τ)) := id rfl
/-! PartitionKernel$Partition.firstReadyNumber()I -/
theorem T38 (F d r0 : Nat) (c : Nat → Nat) (σ : mSg) (τ : mLg) :
    pX F (d + 1) 38 [.inr (some (4, r0))] (c, σ, pr, τ) = pL F d 38 F 0 [(0, .inr (some (4, r0)))] [] (c, σ, pr, τ) := id rfl
theorem T38_0 (F d f r0 : Nat) (c : Nat → Nat) (σ : mSg) (τ : mLg) :
    pL F d 38 (f + 4) 0 [(0, .inr (some (4, r0)))] [] (c, σ, pr, τ) = mq_kv (pX F d 31 [.inr (some (4, r0)), .inl 1, .inl (-1)] (c, σ, pr, τ)) (fun w M => pL F d 38 f 6 [(0, .inr (some (4, r0)))] (mq_psh w []) M) := id rfl
theorem T38_6 (F d f r0 : Nat) (c : Nat → Nat) (σ : mSg) (τ : mLg) :
    pL F d 38 (f + 6) 6 [(0, .inr (some (4, r0)))] [.inr (.inl none)] (c, σ, pr, τ) = some (.inl (some (.inl (-1))), (c, σ, pr, τ)) := id rfl
theorem T38_6a (F d f r0 r_0 : Nat) (c : Nat → Nat) (σ : mSg) (τ : mLg) :
    pL F d 38 (f + 6) 6 [(0, .inr (some (4, r0)))] [.inr (.inl (some (5, r_0)))] (c, σ, pr, τ) = some (.inl (some (.inl (σ 5 r_0 0))), (c, σ, pr, τ)) := id rfl
/-! PartitionKernel$Partition.isSemaphore(I)Z -/
theorem T39 (F d : Nat) (x0 : Int32) (c : Nat → Nat) (σ : mSg) (τ : mLg) :
    pX F (d + 1) 39 [.inl x0] (c, σ, pr, τ) = pL F d 39 F 0 [(0, .inl x0)] [] (c, σ, pr, τ) := id rfl
theorem T39_0 (F d f : Nat) (x0 : Int32) (c : Nat → Nat) (σ : mSg) (τ : mLg) :
    pL F d 39 (f + 2) 0 [(0, .inl x0)] [] (c, σ, pr, τ) = (if x0 < 0 then pL F d 39 f 13 [(0, .inl x0)] [] (c, σ, pr, τ) else pL F d 39 f 4 [(0, .inl x0)] [] (c, σ, pr, τ)) := id rfl
theorem T39_13 (F d f : Nat) (x0 : Int32) (c : Nat → Nat) (σ : mSg) (τ : mLg) :
    pL F d 39 (f + 2) 13 [(0, .inl x0)] [] (c, σ, pr, τ) = some (.inl (some (.inl 0)), (c, σ, pr, τ)) := id rfl
theorem T39_4 (F d f : Nat) (x0 : Int32) (c : Nat → Nat) (σ : mSg) (τ : mLg) :
    pL F d 39 (f + 3) 4 [(0, .inl x0)] [] (c, σ, pr, τ) = (if x0 < 4 then pL F d 39 f 9 [(0, .inl x0)] [] (c, σ, pr, τ) else pL F d 39 f 13 [(0, .inl x0)] [] (c, σ, pr, τ)) := id rfl
theorem T39_9 (F d f : Nat) (x0 : Int32) (c : Nat → Nat) (σ : mSg) (τ : mLg) :
    pL F d 39 (f + 3) 9 [(0, .inl x0)] [] (c, σ, pr, τ) = some (.inl (some (.inl 1)), (c, σ, pr, τ)) := id rfl
/-! PartitionKernel$Partition.firstSleeper(I)LPartitionKernel$Proc; -/
theorem T40 (F d r0 : Nat) (x1 : Int32) (c : Nat → Nat) (σ : mSg) (τ : mLg) :
    pX F (d + 1) 40 [.inr (some (4, r0)), .inl x1] (c, σ, pr, τ) = pL F d 40 F 0 [(0, .inr (some (4, r0))), (1, .inl x1)] [] (c, σ, pr, τ) := id rfl
theorem T40_0 (F d f r0 : Nat) (x1 : Int32) (c : Nat → Nat) (σ : mSg) (τ : mLg) :
    pL F d 40 (f + 4) 0 [(0, .inr (some (4, r0))), (1, .inl x1)] [] (c, σ, pr, τ) = pL F d 40 f 4 [(0, .inr (some (4, r0))), (1, .inl x1), (2, .inr none), (3, .inl 0)] [] (c, σ, pr, τ) := id rfl
theorem T40_4 (F d f r0 : Nat) (x1 x3 : Int32) (c : Nat → Nat) (σ : mSg) (τ : mLg) :
    pL F d 40 (f + 4) 4 [(0, .inr (some (4, r0))), (1, .inl x1), (2, .inr none), (3, .inl x3)] [] (c, σ, pr, τ) = (if x3 < (σ 4 r0 5) then pL F d 40 f 12 [(0, .inr (some (4, r0))), (1, .inl x1), (2, .inr none), (3, .inl x3)] [] (c, σ, pr, τ) else pL F d 40 f 75 [(0, .inr (some (4, r0))), (1, .inl x1), (2, .inr none), (3, .inl x3)] [] (c, σ, pr, τ)) := id rfl
theorem T40_12 (F d f r0 : Nat) (x1 x3 : Int32) (c : Nat → Nat) (σ : mSg) (τ : mLg) :
    pL F d 40 (f + 9) 12 [(0, .inr (some (4, r0))), (1, .inl x1), (2, .inr none), (3, .inl x3)] [] (c, σ, pr, τ) = (if x3 < 0 ∨ 8 ≤ Int32.toNatClampNeg x3 then none else (if (σ 5 (8 * r0 + Int32.toNatClampNeg x3) 7) = 2 then pL F d 40 f 29 [(0, .inr (some (4, r0))), (1, .inl x1), (2, .inr none), (3, .inl x3), (4, .inr (some (5, (8 * r0 + Int32.toNatClampNeg x3))))] [] (c, σ, pr, τ) else pL F d 40 f 42 [(0, .inr (some (4, r0))), (1, .inl x1), (2, .inr none), (3, .inl x3), (4, .inr (some (5, (8 * r0 + Int32.toNatClampNeg x3))))] [] (c, σ, pr, τ))) := id rfl
theorem T40_75 (F d f r0 : Nat) (x1 x3 : Int32) (c : Nat → Nat) (σ : mSg) (τ : mLg) :
    pL F d 40 (f + 2) 75 [(0, .inr (some (4, r0))), (1, .inl x1), (2, .inr none), (3, .inl x3)] [] (c, σ, pr, τ) = some (.inl (some (.inr none)), (c, σ, pr, τ)) := id rfl
theorem T40_29 (F d f r0 r4 : Nat) (x1 x3 : Int32) (c : Nat → Nat) (σ : mSg) (τ : mLg) :
    pL F d 40 (f + 4) 29 [(0, .inr (some (4, r0))), (1, .inl x1), (2, .inr none), (3, .inl x3), (4, .inr (some (5, r4)))] [] (c, σ, pr, τ) = (if x1 < (σ 5 r4 10) then pL F d 40 f 42 [(0, .inr (some (4, r0))), (1, .inl x1), (2, .inr none), (3, .inl x3), (4, .inr (some (5, r4)))] [] (c, σ, pr, τ) else pL F d 40 f 38 [(0, .inr (some (4, r0))), (1, .inl x1), (2, .inr none), (3, .inl x3), (4, .inr (some (5, r4)))] [] (c, σ, pr, τ)) := id rfl
theorem T40_42 (F d f r0 r4 : Nat) (x1 x3 : Int32) (c : Nat → Nat) (σ : mSg) (τ : mLg) :
    pL F d 40 (f + 6) 42 [(0, .inr (some (4, r0))), (1, .inl x1), (2, .inr none), (3, .inl x3), (4, .inr (some (5, r4)))] [] (c, σ, pr, τ) = pL F d 40 f 4 [(0, .inr (some (4, r0))), (1, .inl x1), (2, .inr none), (3, .inl (x3 + 1)), (4, .inr (some (5, r4))), (5, .inl 0)] [] (c, σ, pr, τ) := id rfl
theorem T40_38 (F d f r0 r4 : Nat) (x1 x3 : Int32) (c : Nat → Nat) (σ : mSg) (τ : mLg) :
    pL F d 40 (f + 11) 38 [(0, .inr (some (4, r0))), (1, .inl x1), (2, .inr none), (3, .inl x3), (4, .inr (some (5, r4)))] [] (c, σ, pr, τ) = pL F d 40 f 4 [(0, .inr (some (4, r0))), (1, .inl x1), (2, .inr (some (5, r4))), (3, .inl (x3 + 1)), (4, .inr (some (5, r4))), (5, .inl 1)] [] (c, σ, pr, τ) := id rfl
theorem T40_4a (F d f r0 r4 : Nat) (x1 x3 x5 : Int32) (c : Nat → Nat) (σ : mSg) (τ : mLg) :
    pL F d 40 (f + 4) 4 [(0, .inr (some (4, r0))), (1, .inl x1), (2, .inr none), (3, .inl x3), (4, .inr (some (5, r4))), (5, .inl x5)] [] (c, σ, pr, τ) = (if x3 < (σ 4 r0 5) then pL F d 40 f 12 [(0, .inr (some (4, r0))), (1, .inl x1), (2, .inr none), (3, .inl x3), (4, .inr (some (5, r4))), (5, .inl x5)] [] (c, σ, pr, τ) else pL F d 40 f 75 [(0, .inr (some (4, r0))), (1, .inl x1), (2, .inr none), (3, .inl x3), (4, .inr (some (5, r4))), (5, .inl x5)] [] (c, σ, pr, τ)) := id rfl
theorem T40_4b (F d f r0 r2 r4 : Nat) (x1 x3 x5 : Int32) (c : Nat → Nat) (σ : mSg) (τ : mLg) :
    pL F d 40 (f + 4) 4 [(0, .inr (some (4, r0))), (1, .inl x1), (2, .inr (some (5, r2))), (3, .inl x3), (4, .inr (some (5, r4))), (5, .inl x5)] [] (c, σ, pr, τ) = (if x3 < (σ 4 r0 5) then pL F d 40 f 12 [(0, .inr (some (4, r0))), (1, .inl x1), (2, .inr (some (5, r2))), (3, .inl x3), (4, .inr (some (5, r4))), (5, .inl x5)] [] (c, σ, pr, τ) else pL F d 40 f 75 [(0, .inr (some (4, r0))), (1, .inl x1), (2, .inr (some (5, r2))), (3, .inl x3), (4, .inr (some (5, r4))), (5, .inl x5)] [] (c, σ, pr, τ)) := id rfl
theorem T40_12a (F d f r0 r4 : Nat) (x1 x3 x5 : Int32) (c : Nat → Nat) (σ : mSg) (τ : mLg) :
    pL F d 40 (f + 9) 12 [(0, .inr (some (4, r0))), (1, .inl x1), (2, .inr none), (3, .inl x3), (4, .inr (some (5, r4))), (5, .inl x5)] [] (c, σ, pr, τ) = (if x3 < 0 ∨ 8 ≤ Int32.toNatClampNeg x3 then none else (if (σ 5 (8 * r0 + Int32.toNatClampNeg x3) 7) = 2 then pL F d 40 f 29 [(0, .inr (some (4, r0))), (1, .inl x1), (2, .inr none), (3, .inl x3), (4, .inr (some (5, (8 * r0 + Int32.toNatClampNeg x3)))), (5, .inl x5)] [] (c, σ, pr, τ) else pL F d 40 f 42 [(0, .inr (some (4, r0))), (1, .inl x1), (2, .inr none), (3, .inl x3), (4, .inr (some (5, (8 * r0 + Int32.toNatClampNeg x3)))), (5, .inl x5)] [] (c, σ, pr, τ))) := id rfl
theorem T40_75a (F d f r0 r4 : Nat) (x1 x3 x5 : Int32) (c : Nat → Nat) (σ : mSg) (τ : mLg) :
    pL F d 40 (f + 2) 75 [(0, .inr (some (4, r0))), (1, .inl x1), (2, .inr none), (3, .inl x3), (4, .inr (some (5, r4))), (5, .inl x5)] [] (c, σ, pr, τ) = some (.inl (some (.inr none)), (c, σ, pr, τ)) := id rfl
theorem T40_12b (F d f r0 r2 r4 : Nat) (x1 x3 x5 : Int32) (c : Nat → Nat) (σ : mSg) (τ : mLg) :
    pL F d 40 (f + 9) 12 [(0, .inr (some (4, r0))), (1, .inl x1), (2, .inr (some (5, r2))), (3, .inl x3), (4, .inr (some (5, r4))), (5, .inl x5)] [] (c, σ, pr, τ) = (if x3 < 0 ∨ 8 ≤ Int32.toNatClampNeg x3 then none else (if (σ 5 (8 * r0 + Int32.toNatClampNeg x3) 7) = 2 then pL F d 40 f 29 [(0, .inr (some (4, r0))), (1, .inl x1), (2, .inr (some (5, r2))), (3, .inl x3), (4, .inr (some (5, (8 * r0 + Int32.toNatClampNeg x3)))), (5, .inl x5)] [] (c, σ, pr, τ) else pL F d 40 f 42 [(0, .inr (some (4, r0))), (1, .inl x1), (2, .inr (some (5, r2))), (3, .inl x3), (4, .inr (some (5, (8 * r0 + Int32.toNatClampNeg x3)))), (5, .inl x5)] [] (c, σ, pr, τ))) := id rfl
theorem T40_75b (F d f r0 r2 r4 : Nat) (x1 x3 x5 : Int32) (c : Nat → Nat) (σ : mSg) (τ : mLg) :
    pL F d 40 (f + 2) 75 [(0, .inr (some (4, r0))), (1, .inl x1), (2, .inr (some (5, r2))), (3, .inl x3), (4, .inr (some (5, r4))), (5, .inl x5)] [] (c, σ, pr, τ) = some (.inl (some (.inr (some (5, r2)))), (c, σ, pr, τ)) := id rfl
theorem T40_29a (F d f r0 r4 : Nat) (x1 x3 x5 : Int32) (c : Nat → Nat) (σ : mSg) (τ : mLg) :
    pL F d 40 (f + 4) 29 [(0, .inr (some (4, r0))), (1, .inl x1), (2, .inr none), (3, .inl x3), (4, .inr (some (5, r4))), (5, .inl x5)] [] (c, σ, pr, τ) = (if x1 < (σ 5 r4 10) then pL F d 40 f 42 [(0, .inr (some (4, r0))), (1, .inl x1), (2, .inr none), (3, .inl x3), (4, .inr (some (5, r4))), (5, .inl x5)] [] (c, σ, pr, τ) else pL F d 40 f 38 [(0, .inr (some (4, r0))), (1, .inl x1), (2, .inr none), (3, .inl x3), (4, .inr (some (5, r4))), (5, .inl x5)] [] (c, σ, pr, τ)) := id rfl
theorem T40_42a (F d f r0 r4 : Nat) (x1 x3 x5 : Int32) (c : Nat → Nat) (σ : mSg) (τ : mLg) :
    pL F d 40 (f + 6) 42 [(0, .inr (some (4, r0))), (1, .inl x1), (2, .inr none), (3, .inl x3), (4, .inr (some (5, r4))), (5, .inl x5)] [] (c, σ, pr, τ) = pL F d 40 f 4 [(0, .inr (some (4, r0))), (1, .inl x1), (2, .inr none), (3, .inl (x3 + 1)), (4, .inr (some (5, r4))), (5, .inl 0)] [] (c, σ, pr, τ) := id rfl
theorem T40_29b (F d f r0 r2 r4 : Nat) (x1 x3 x5 : Int32) (c : Nat → Nat) (σ : mSg) (τ : mLg) :
    pL F d 40 (f + 4) 29 [(0, .inr (some (4, r0))), (1, .inl x1), (2, .inr (some (5, r2))), (3, .inl x3), (4, .inr (some (5, r4))), (5, .inl x5)] [] (c, σ, pr, τ) = (if x1 < (σ 5 r4 10) then pL F d 40 f 42 [(0, .inr (some (4, r0))), (1, .inl x1), (2, .inr (some (5, r2))), (3, .inl x3), (4, .inr (some (5, r4))), (5, .inl x5)] [] (c, σ, pr, τ) else pL F d 40 f 38 [(0, .inr (some (4, r0))), (1, .inl x1), (2, .inr (some (5, r2))), (3, .inl x3), (4, .inr (some (5, r4))), (5, .inl x5)] [] (c, σ, pr, τ)) := id rfl
theorem T40_42b (F d f r0 r2 r4 : Nat) (x1 x3 x5 : Int32) (c : Nat → Nat) (σ : mSg) (τ : mLg) :
    pL F d 40 (f + 6) 42 [(0, .inr (some (4, r0))), (1, .inl x1), (2, .inr (some (5, r2))), (3, .inl x3), (4, .inr (some (5, r4))), (5, .inl x5)] [] (c, σ, pr, τ) = pL F d 40 f 4 [(0, .inr (some (4, r0))), (1, .inl x1), (2, .inr (some (5, r2))), (3, .inl (x3 + 1)), (4, .inr (some (5, r4))), (5, .inl 0)] [] (c, σ, pr, τ) := id rfl
theorem T40_38a (F d f r0 r4 : Nat) (x1 x3 x5 : Int32) (c : Nat → Nat) (σ : mSg) (τ : mLg) :
    pL F d 40 (f + 11) 38 [(0, .inr (some (4, r0))), (1, .inl x1), (2, .inr none), (3, .inl x3), (4, .inr (some (5, r4))), (5, .inl x5)] [] (c, σ, pr, τ) = pL F d 40 f 4 [(0, .inr (some (4, r0))), (1, .inl x1), (2, .inr (some (5, r4))), (3, .inl (x3 + 1)), (4, .inr (some (5, r4))), (5, .inl 1)] [] (c, σ, pr, τ) := id rfl
theorem T40_38b (F d f r0 r2 r4 : Nat) (x1 x3 x5 : Int32) (c : Nat → Nat) (σ : mSg) (τ : mLg) :
    pL F d 40 (f + 12) 38 [(0, .inr (some (4, r0))), (1, .inl x1), (2, .inr (some (5, r2))), (3, .inl x3), (4, .inr (some (5, r4))), (5, .inl x5)] [] (c, σ, pr, τ) = (if (σ 5 r4 10) < (σ 5 r2 10) then pL F d 40 f 66 [(0, .inr (some (4, r0))), (1, .inl x1), (2, .inr (some (5, r2))), (3, .inl x3), (4, .inr (some (5, r4))), (5, .inl 1)] [] (c, σ, pr, τ) else pL F d 40 f 69 [(0, .inr (some (4, r0))), (1, .inl x1), (2, .inr (some (5, r2))), (3, .inl x3), (4, .inr (some (5, r4))), (5, .inl 1)] [] (c, σ, pr, τ)) := id rfl
theorem T40_66 (F d f r0 r2 r4 : Nat) (x1 x3 x5 : Int32) (c : Nat → Nat) (σ : mSg) (τ : mLg) :
    pL F d 40 (f + 4) 66 [(0, .inr (some (4, r0))), (1, .inl x1), (2, .inr (some (5, r2))), (3, .inl x3), (4, .inr (some (5, r4))), (5, .inl x5)] [] (c, σ, pr, τ) = pL F d 40 f 4 [(0, .inr (some (4, r0))), (1, .inl x1), (2, .inr (some (5, r4))), (3, .inl (x3 + 1)), (4, .inr (some (5, r4))), (5, .inl x5)] [] (c, σ, pr, τ) := id rfl
theorem T40_69 (F d f r0 r2 r4 : Nat) (x1 x3 x5 : Int32) (c : Nat → Nat) (σ : mSg) (τ : mLg) :
    pL F d 40 (f + 2) 69 [(0, .inr (some (4, r0))), (1, .inl x1), (2, .inr (some (5, r2))), (3, .inl x3), (4, .inr (some (5, r4))), (5, .inl x5)] [] (c, σ, pr, τ) = pL F d 40 f 4 [(0, .inr (some (4, r0))), (1, .inl x1), (2, .inr (some (5, r2))), (3, .inl (x3 + 1)), (4, .inr (some (5, r4))), (5, .inl x5)] [] (c, σ, pr, τ) := id rfl
/-! PartitionKernel$Partition.enter(LPartitionKernel$Proc;III)V -/
theorem T41 (F d r0 r1 : Nat) (x2 x3 x4 : Int32) (c : Nat → Nat) (σ : mSg) (τ : mLg) :
    pX F (d + 1) 41 [.inr (some (4, r0)), .inr (some (5, r1)), .inl x2, .inl x3, .inl x4] (c, σ, pr, τ) = pL F d 41 F 0 [(0, .inr (some (4, r0))), (1, .inr (some (5, r1))), (2, .inl x2), (3, .inl x3), (4, .inl x4)] [] (c, σ, pr, τ) := id rfl
theorem T41_0 (F d f r0 r1 : Nat) (x2 x3 x4 : Int32) (c : Nat → Nat) (σ : mSg) (τ : mLg) :
    pL F d 41 (f + 20) 0 [(0, .inr (some (4, r0))), (1, .inr (some (5, r1))), (2, .inl x2), (3, .inl x3), (4, .inl x4)] [] (c, σ, pr, τ) = some (.inl (none), (c, (mq_up (mq_up (mq_up (mq_up (mq_up σ 5 r1 7 x2) 5 r1 10 x3) 5 r1 11 x4) 5 r1 12 ((mq_up (mq_up (mq_up σ 5 r1 7 x2) 5 r1 10 x3) 5 r1 11 x4) 4 r0 6)) 4 r0 6 (((mq_up (mq_up (mq_up (mq_up σ 5 r1 7 x2) 5 r1 10 x3) 5 r1 11 x4) 5 r1 12 ((mq_up (mq_up (mq_up σ 5 r1 7 x2) 5 r1 10 x3) 5 r1 11 x4) 4 r0 6)) 4 r0 6) + 1)), pr, τ)) := id rfl
/-! PartitionKernel$Proc.get(I)I -/
theorem T43 (F d r0 : Nat) (x1 : Int32) (c : Nat → Nat) (σ : mSg) (τ : mLg) :
    pX F (d + 1) 43 [.inr (some (5, r0)), .inl x1] (c, σ, pr, τ) = pL F d 43 F 0 [(0, .inr (some (5, r0))), (1, .inl x1)] [] (c, σ, pr, τ) := id rfl
theorem T43_0 (F d f r0 : Nat) (x1 : Int32) (c : Nat → Nat) (σ : mSg) (τ : mLg) :
    pL F d 43 (f + 2) 0 [(0, .inr (some (5, r0))), (1, .inl x1)] [] (c, σ, pr, τ) = (if x1 < 0 then pL F d 43 f 19 [(0, .inr (some (5, r0))), (1, .inl x1)] [] (c, σ, pr, τ) else pL F d 43 f 4 [(0, .inr (some (5, r0))), (1, .inl x1)] [] (c, σ, pr, τ)) := id rfl
theorem T43_19 (F d f r0 : Nat) (x1 : Int32) (c : Nat → Nat) (σ : mSg) (τ : mLg) :
    pL F d 43 (f + 2) 19 [(0, .inr (some (5, r0))), (1, .inl x1)] [] (c, σ, pr, τ) = some (.inl (some (.inl 0)), (c, σ, pr, τ)) := id rfl
theorem T43_4 (F d f r0 : Nat) (x1 : Int32) (c : Nat → Nat) (σ : mSg) (τ : mLg) :
    pL F d 43 (f + 3) 4 [(0, .inr (some (5, r0))), (1, .inl x1)] [] (c, σ, pr, τ) = (if x1 < 32 then pL F d 43 f 10 [(0, .inr (some (5, r0))), (1, .inl x1)] [] (c, σ, pr, τ) else pL F d 43 f 19 [(0, .inr (some (5, r0))), (1, .inl x1)] [] (c, σ, pr, τ)) := id rfl
theorem T43_10 (F d f r0 : Nat) (x1 : Int32) (c : Nat → Nat) (σ : mSg) (τ : mLg) :
    pL F d 43 (f + 6) 10 [(0, .inr (some (5, r0))), (1, .inl x1)] [] (c, σ, pr, τ) = (if x1 < 0 ∨ 32 ≤ Int32.toNatClampNeg x1 then none else some (.inl (some (.inl (σ 13 r0 (Int32.toNatClampNeg x1)))), (c, σ, pr, τ))) := id rfl
/-! PartitionKernel$Proc.set(II)V -/
theorem T44 (F d r0 : Nat) (x1 x2 : Int32) (c : Nat → Nat) (σ : mSg) (τ : mLg) :
    pX F (d + 1) 44 [.inr (some (5, r0)), .inl x1, .inl x2] (c, σ, pr, τ) = pL F d 44 F 0 [(0, .inr (some (5, r0))), (1, .inl x1), (2, .inl x2)] [] (c, σ, pr, τ) := id rfl
theorem T44_0 (F d f r0 : Nat) (x1 x2 : Int32) (c : Nat → Nat) (σ : mSg) (τ : mLg) :
    pL F d 44 (f + 2) 0 [(0, .inr (some (5, r0))), (1, .inl x1), (2, .inl x2)] [] (c, σ, pr, τ) = (if 0 < x1 then pL F d 44 f 4 [(0, .inr (some (5, r0))), (1, .inl x1), (2, .inl x2)] [] (c, σ, pr, τ) else pL F d 44 f 17 [(0, .inr (some (5, r0))), (1, .inl x1), (2, .inl x2)] [] (c, σ, pr, τ)) := id rfl
theorem T44_4 (F d f r0 : Nat) (x1 x2 : Int32) (c : Nat → Nat) (σ : mSg) (τ : mLg) :
    pL F d 44 (f + 3) 4 [(0, .inr (some (5, r0))), (1, .inl x1), (2, .inl x2)] [] (c, σ, pr, τ) = (if x1 < 32 then pL F d 44 f 10 [(0, .inr (some (5, r0))), (1, .inl x1), (2, .inl x2)] [] (c, σ, pr, τ) else pL F d 44 f 17 [(0, .inr (some (5, r0))), (1, .inl x1), (2, .inl x2)] [] (c, σ, pr, τ)) := id rfl
theorem T44_17 (F d f r0 : Nat) (x1 x2 : Int32) (c : Nat → Nat) (σ : mSg) (τ : mLg) :
    pL F d 44 (f + 1) 17 [(0, .inr (some (5, r0))), (1, .inl x1), (2, .inl x2)] [] (c, σ, pr, τ) = some (.inl (none), (c, σ, pr, τ)) := id rfl
theorem T44_10 (F d f r0 : Nat) (x1 x2 : Int32) (c : Nat → Nat) (σ : mSg) (τ : mLg) :
    pL F d 44 (f + 6) 10 [(0, .inr (some (5, r0))), (1, .inl x1), (2, .inl x2)] [] (c, σ, pr, τ) = (if x1 < 0 ∨ 32 ≤ Int32.toNatClampNeg x1 then none else some (.inl (none), (c, (mq_up σ 13 r0 (Int32.toNatClampNeg x1) x2), pr, τ))) := id rfl
/-! PartitionKernel$Proc.reset()V -/
theorem T45 (F d r0 : Nat) (c : Nat → Nat) (σ : mSg) (τ : mLg) :
    pX F (d + 1) 45 [.inr (some (5, r0))] (c, σ, pr, τ) = pL F d 45 F 0 [(0, .inr (some (5, r0)))] [] (c, σ, pr, τ) := id rfl
theorem T45_0 (F d f r0 : Nat) (c : Nat → Nat) (σ : mSg) (τ : mLg) :
    pL F d 45 (f + 2) 0 [(0, .inr (some (5, r0)))] [] (c, σ, pr, τ) = pL F d 45 f 2 [(0, .inr (some (5, r0))), (1, .inl 0)] [] (c, σ, pr, τ) := id rfl
theorem T45_2 (F d f r0 : Nat) (x1 : Int32) (c : Nat → Nat) (σ : mSg) (τ : mLg) :
    pL F d 45 (f + 3) 2 [(0, .inr (some (5, r0))), (1, .inl x1)] [] (c, σ, pr, τ) = (if x1 < 32 then pL F d 45 f 8 [(0, .inr (some (5, r0))), (1, .inl x1)] [] (c, σ, pr, τ) else pL F d 45 f 21 [(0, .inr (some (5, r0))), (1, .inl x1)] [] (c, σ, pr, τ)) := id rfl
theorem T45_8 (F d f r0 : Nat) (x1 : Int32) (c : Nat → Nat) (σ : mSg) (τ : mLg) :
    pL F d 45 (f + 7) 8 [(0, .inr (some (5, r0))), (1, .inl x1)] [] (c, σ, pr, τ) = (if x1 < 0 ∨ 32 ≤ Int32.toNatClampNeg x1 then none else pL F d 45 f 2 [(0, .inr (some (5, r0))), (1, .inl (x1 + 1))] [] (c, (mq_up σ 13 r0 (Int32.toNatClampNeg x1) 0), pr, τ)) := id rfl
theorem T45_21 (F d f r0 : Nat) (x1 : Int32) (c : Nat → Nat) (σ : mSg) (τ : mLg) :
    pL F d 45 (f + 5) 21 [(0, .inr (some (5, r0))), (1, .inl x1)] [] (c, σ, pr, τ) = some (.inl (none), (c, (mq_up σ 5 r0 6 (σ 5 r0 2)), pr, τ)) := id rfl
/-! PartitionKernel$Proc.releaseAt(I)V -/
theorem T46 (F d r0 : Nat) (x1 : Int32) (c : Nat → Nat) (σ : mSg) (τ : mLg) :
    pX F (d + 1) 46 [.inr (some (5, r0)), .inl x1] (c, σ, pr, τ) = pL F d 46 F 0 [(0, .inr (some (5, r0))), (1, .inl x1)] [] (c, σ, pr, τ) := id rfl
theorem T46_0 (F d f r0 : Nat) (x1 : Int32) (c : Nat → Nat) (σ : mSg) (τ : mLg) :
    pL F d 46 (f + 7) 0 [(0, .inr (some (5, r0))), (1, .inl x1)] [] (c, σ, pr, τ) = (if 0 < ((mq_up σ 5 r0 9 x1) 5 r0 5) then pL F d 46 f 13 [(0, .inr (some (5, r0))), (1, .inl x1)] [.inr (.inl (some (5, r0)))] (c, (mq_up σ 5 r0 9 x1), pr, τ) else pL F d 46 f 22 [(0, .inr (some (5, r0))), (1, .inl x1)] [.inr (.inl (some (5, r0)))] (c, (mq_up σ 5 r0 9 x1), pr, τ)) := id rfl
theorem T46_13 (F d f r0 r_0 : Nat) (x1 : Int32) (c : Nat → Nat) (σ : mSg) (τ : mLg) :
    pL F d 46 (f + 7) 13 [(0, .inr (some (5, r0))), (1, .inl x1)] [.inr (.inl (some (5, r_0)))] (c, σ, pr, τ) = some (.inl (none), (c, (mq_up σ 5 r_0 8 (x1 + (σ 5 r0 5))), pr, τ)) := id rfl
theorem T46_22 (F d f r0 r_0 : Nat) (x1 : Int32) (c : Nat → Nat) (σ : mSg) (τ : mLg) :
    pL F d 46 (f + 3) 22 [(0, .inr (some (5, r0))), (1, .inl x1)] [.inr (.inl (some (5, r_0)))] (c, σ, pr, τ) = some (.inl (none), (c, (mq_up σ 5 r_0 8 (-1)), pr, τ)) := id rfl
/-! PartitionKernel$Proc.isLate(I)Z -/
theorem T47 (F d r0 : Nat) (x1 : Int32) (c : Nat → Nat) (σ : mSg) (τ : mLg) :
    pX F (d + 1) 47 [.inr (some (5, r0)), .inl x1] (c, σ, pr, τ) = pL F d 47 F 0 [(0, .inr (some (5, r0))), (1, .inl x1)] [] (c, σ, pr, τ) := id rfl
theorem T47_0 (F d f r0 : Nat) (x1 : Int32) (c : Nat → Nat) (σ : mSg) (τ : mLg) :
    pL F d 47 (f + 4) 0 [(0, .inr (some (5, r0))), (1, .inl x1)] [] (c, σ, pr, τ) = (if (σ 5 r0 8) = (-1) then pL F d 47 f 20 [(0, .inr (some (5, r0))), (1, .inl x1)] [] (c, σ, pr, τ) else pL F d 47 f 8 [(0, .inr (some (5, r0))), (1, .inl x1)] [] (c, σ, pr, τ)) := id rfl
theorem T47_20 (F d f r0 : Nat) (x1 : Int32) (c : Nat → Nat) (σ : mSg) (τ : mLg) :
    pL F d 47 (f + 2) 20 [(0, .inr (some (5, r0))), (1, .inl x1)] [] (c, σ, pr, τ) = some (.inl (some (.inl 0)), (c, σ, pr, τ)) := id rfl
theorem T47_8 (F d f r0 : Nat) (x1 : Int32) (c : Nat → Nat) (σ : mSg) (τ : mLg) :
    pL F d 47 (f + 4) 8 [(0, .inr (some (5, r0))), (1, .inl x1)] [] (c, σ, pr, τ) = (if (σ 5 r0 8) < x1 then pL F d 47 f 16 [(0, .inr (some (5, r0))), (1, .inl x1)] [] (c, σ, pr, τ) else pL F d 47 f 20 [(0, .inr (some (5, r0))), (1, .inl x1)] [] (c, σ, pr, τ)) := id rfl
theorem T47_16 (F d f r0 : Nat) (x1 : Int32) (c : Nat → Nat) (σ : mSg) (τ : mLg) :
    pL F d 47 (f + 3) 16 [(0, .inr (some (5, r0))), (1, .inl x1)] [] (c, σ, pr, τ) = some (.inl (some (.inl 1)), (c, σ, pr, τ)) := id rfl
/-! PartitionKernel$Proc.leads(LPartitionKernel$Proc;)Z -/
theorem T48 (F d r0 r1 : Nat) (c : Nat → Nat) (σ : mSg) (τ : mLg) :
    pX F (d + 1) 48 [.inr (some (5, r0)), .inr (some (5, r1))] (c, σ, pr, τ) = pL F d 48 F 0 [(0, .inr (some (5, r0))), (1, .inr (some (5, r1)))] [] (c, σ, pr, τ) := id rfl
theorem T48x (F d r0 : Nat) (c : Nat → Nat) (σ : mSg) (τ : mLg) :
    pX F (d + 1) 48 [.inr (some (5, r0)), .inr none] (c, σ, pr, τ) = pL F d 48 F 0 [(0, .inr (some (5, r0))), (1, .inr none)] [] (c, σ, pr, τ) := id rfl
theorem T48_0 (F d f r0 r1 : Nat) (c : Nat → Nat) (σ : mSg) (τ : mLg) :
    pL F d 48 (f + 7) 0 [(0, .inr (some (5, r0))), (1, .inr (some (5, r1)))] [] (c, σ, pr, τ) = (if (σ 5 r0 3) = (σ 5 r1 3) then pL F d 48 f 17 [(0, .inr (some (5, r0))), (1, .inr (some (5, r1)))] [] (c, σ, pr, τ) else pL F d 48 f 36 [(0, .inr (some (5, r0))), (1, .inr (some (5, r1)))] [] (c, σ, pr, τ)) := id rfl
theorem T48_0a (F d f r0 : Nat) (c : Nat → Nat) (σ : mSg) (τ : mLg) :
    pL F d 48 (f + 4) 0 [(0, .inr (some (5, r0))), (1, .inr none)] [] (c, σ, pr, τ) = some (.inl (some (.inl 1)), (c, σ, pr, τ)) := id rfl
theorem T48_17 (F d f r0 r1 : Nat) (c : Nat → Nat) (σ : mSg) (τ : mLg) :
    pL F d 48 (f + 5) 17 [(0, .inr (some (5, r0))), (1, .inr (some (5, r1)))] [] (c, σ, pr, τ) = (if (σ 5 r0 12) < (σ 5 r1 12) then pL F d 48 f 28 [(0, .inr (some (5, r0))), (1, .inr (some (5, r1)))] [] (c, σ, pr, τ) else pL F d 48 f 32 [(0, .inr (some (5, r0))), (1, .inr (some (5, r1)))] [] (c, σ, pr, τ)) := id rfl
theorem T48_36 (F d f r0 r1 : Nat) (c : Nat → Nat) (σ : mSg) (τ : mLg) :
    pL F d 48 (f + 5) 36 [(0, .inr (some (5, r0))), (1, .inr (some (5, r1)))] [] (c, σ, pr, τ) = (if (σ 5 r1 3) < (σ 5 r0 3) then pL F d 48 f 47 [(0, .inr (some (5, r0))), (1, .inr (some (5, r1)))] [] (c, σ, pr, τ) else pL F d 48 f 51 [(0, .inr (some (5, r0))), (1, .inr (some (5, r1)))] [] (c, σ, pr, τ)) := id rfl
theorem T48_28 (F d f r0 r1 : Nat) (c : Nat → Nat) (σ : mSg) (τ : mLg) :
    pL F d 48 (f + 3) 28 [(0, .inr (some (5, r0))), (1, .inr (some (5, r1)))] [] (c, σ, pr, τ) = some (.inl (some (.inl 1)), (c, σ, pr, τ)) := id rfl
theorem T48_32 (F d f r0 r1 : Nat) (c : Nat → Nat) (σ : mSg) (τ : mLg) :
    pL F d 48 (f + 3) 32 [(0, .inr (some (5, r0))), (1, .inr (some (5, r1)))] [] (c, σ, pr, τ) = some (.inl (some (.inl 0)), (c, σ, pr, τ)) := id rfl
theorem T48_47 (F d f r0 r1 : Nat) (c : Nat → Nat) (σ : mSg) (τ : mLg) :
    pL F d 48 (f + 3) 47 [(0, .inr (some (5, r0))), (1, .inr (some (5, r1)))] [] (c, σ, pr, τ) = some (.inl (some (.inl 1)), (c, σ, pr, τ)) := id rfl
theorem T48_51 (F d f r0 r1 : Nat) (c : Nat → Nat) (σ : mSg) (τ : mLg) :
    pL F d 48 (f + 2) 51 [(0, .inr (some (5, r0))), (1, .inr (some (5, r1)))] [] (c, σ, pr, τ) = some (.inl (some (.inl 0)), (c, σ, pr, τ)) := id rfl
/-! PartitionKernel$Proc.tell(I)I -/
theorem T49 (F d r0 : Nat) (x1 : Int32) (c : Nat → Nat) (σ : mSg) (τ : mLg) :
    pX F (d + 1) 49 [.inr (some (5, r0)), .inl x1] (c, σ, pr, τ) = pL F d 49 F 0 [(0, .inr (some (5, r0))), (1, .inl x1)] [] (c, σ, pr, τ) := id rfl
theorem T49_0 (F d f r0 : Nat) (x1 : Int32) (c : Nat → Nat) (σ : mSg) (τ : mLg) :
    pL F d 49 (f + 2) 0 [(0, .inr (some (5, r0))), (1, .inl x1)] [] (c, σ, pr, τ) = pL F d 49 f (mq_swt x1 88 [(0, 48), (1, 53), (2, 58), (3, 63), (4, 68), (5, 73), (6, 78), (7, 83)]) [(0, .inr (some (5, r0))), (1, .inl x1)] [] (c, σ, pr, τ) := id rfl
theorem T49_48 (F d f r0 : Nat) (x1 : Int32) (c : Nat → Nat) (σ : mSg) (τ : mLg) :
    pL F d 49 (f + 3) 48 [(0, .inr (some (5, r0))), (1, .inl x1)] [] (c, σ, pr, τ) = some (.inl (some (.inl (σ 5 r0 7))), (c, σ, pr, τ)) := id rfl
theorem T49_53 (F d f r0 : Nat) (x1 : Int32) (c : Nat → Nat) (σ : mSg) (τ : mLg) :
    pL F d 49 (f + 3) 53 [(0, .inr (some (5, r0))), (1, .inl x1)] [] (c, σ, pr, τ) = some (.inl (some (.inl (σ 5 r0 6))), (c, σ, pr, τ)) := id rfl
theorem T49_58 (F d f r0 : Nat) (x1 : Int32) (c : Nat → Nat) (σ : mSg) (τ : mLg) :
    pL F d 49 (f + 3) 58 [(0, .inr (some (5, r0))), (1, .inl x1)] [] (c, σ, pr, τ) = some (.inl (some (.inl (σ 5 r0 3))), (c, σ, pr, τ)) := id rfl
theorem T49_63 (F d f r0 : Nat) (x1 : Int32) (c : Nat → Nat) (σ : mSg) (τ : mLg) :
    pL F d 49 (f + 3) 63 [(0, .inr (some (5, r0))), (1, .inl x1)] [] (c, σ, pr, τ) = some (.inl (some (.inl (σ 5 r0 8))), (c, σ, pr, τ)) := id rfl
theorem T49_68 (F d f r0 : Nat) (x1 : Int32) (c : Nat → Nat) (σ : mSg) (τ : mLg) :
    pL F d 49 (f + 3) 68 [(0, .inr (some (5, r0))), (1, .inl x1)] [] (c, σ, pr, τ) = some (.inl (some (.inl (σ 5 r0 10))), (c, σ, pr, τ)) := id rfl
theorem T49_73 (F d f r0 : Nat) (x1 : Int32) (c : Nat → Nat) (σ : mSg) (τ : mLg) :
    pL F d 49 (f + 3) 73 [(0, .inr (some (5, r0))), (1, .inl x1)] [] (c, σ, pr, τ) = some (.inl (some (.inl (σ 5 r0 11))), (c, σ, pr, τ)) := id rfl
theorem T49_78 (F d f r0 : Nat) (x1 : Int32) (c : Nat → Nat) (σ : mSg) (τ : mLg) :
    pL F d 49 (f + 3) 78 [(0, .inr (some (5, r0))), (1, .inl x1)] [] (c, σ, pr, τ) = some (.inl (some (.inl (σ 5 r0 13))), (c, σ, pr, τ)) := id rfl
theorem T49_83 (F d f r0 : Nat) (x1 : Int32) (c : Nat → Nat) (σ : mSg) (τ : mLg) :
    pL F d 49 (f + 3) 83 [(0, .inr (some (5, r0))), (1, .inl x1)] [] (c, σ, pr, τ) = some (.inl (some (.inl (σ 5 r0 9))), (c, σ, pr, τ)) := id rfl
theorem T49_88 (F d f r0 : Nat) (x1 : Int32) (c : Nat → Nat) (σ : mSg) (τ : mLg) :
    pL F d 49 (f + 2) 88 [(0, .inr (some (5, r0))), (1, .inl x1)] [] (c, σ, pr, τ) = some (.inl (some (.inl (-1))), (c, σ, pr, τ)) := id rfl
