/-! Trees of the methods, by program (wip/whole/tools/sx.py). -/
/-! PartitionKernelModel.thrown()I -/
theorem T100 (F d : Nat) (c : Nat → Nat) (σ : mSg) (τ : mLg) :
    pX F (d + 1) 100 [.inr (some (7, 0))] (c, σ, pr, τ) = pL F d 100 F 0 [(0, .inr (some (7, 0)))] [] (c, σ, pr, τ) := id rfl
theorem T100_0 (F d f : Nat) (c : Nat → Nat) (σ : mSg) (τ : mLg) :
    pL F d 100 (f + 3) 0 [(0, .inr (some (7, 0)))] [] (c, σ, pr, τ) = some (.inl (some (.inl (σ 7 0 0))), (c, σ, pr, τ)) := id rfl
/-! PartitionKernelModel.in(II)Z -/
theorem T101 (F d : Nat) (x0 x1 : Int32) (c : Nat → Nat) (σ : mSg) (τ : mLg) :
    pX F (d + 1) 101 [.inl x0, .inl x1] (c, σ, pr, τ) = pL F d 101 F 0 [(0, .inl x0), (1, .inl x1)] [] (c, σ, pr, τ) := id rfl
theorem T101_0 (F d f : Nat) (x0 x1 : Int32) (c : Nat → Nat) (σ : mSg) (τ : mLg) :
    pL F d 101 (f + 2) 0 [(0, .inl x0), (1, .inl x1)] [] (c, σ, pr, τ) = (if x0 < 0 then pL F d 101 f 13 [(0, .inl x0), (1, .inl x1)] [] (c, σ, pr, τ) else pL F d 101 f 4 [(0, .inl x0), (1, .inl x1)] [] (c, σ, pr, τ)) := id rfl
theorem T101_13 (F d f : Nat) (x0 x1 : Int32) (c : Nat → Nat) (σ : mSg) (τ : mLg) :
    pL F d 101 (f + 2) 13 [(0, .inl x0), (1, .inl x1)] [] (c, σ, pr, τ) = some (.inl (some (.inl 0)), (c, σ, pr, τ)) := id rfl
theorem T101_4 (F d f : Nat) (x0 x1 : Int32) (c : Nat → Nat) (σ : mSg) (τ : mLg) :
    pL F d 101 (f + 3) 4 [(0, .inl x0), (1, .inl x1)] [] (c, σ, pr, τ) = (if x0 < x1 then pL F d 101 f 9 [(0, .inl x0), (1, .inl x1)] [] (c, σ, pr, τ) else pL F d 101 f 13 [(0, .inl x0), (1, .inl x1)] [] (c, σ, pr, τ)) := id rfl
theorem T101_9 (F d f : Nat) (x0 x1 : Int32) (c : Nat → Nat) (σ : mSg) (τ : mLg) :
    pL F d 101 (f + 3) 9 [(0, .inl x0), (1, .inl x1)] [] (c, σ, pr, τ) = some (.inl (some (.inl 1)), (c, σ, pr, τ)) := id rfl
/-! PartitionKernelModel.ready(I)V -/
theorem T102 (F d : Nat) (x1 : Int32) (c : Nat → Nat) (σ : mSg) (τ : mLg) :
    pX F (d + 1) 102 [.inr (some (7, 0)), .inl x1] (c, σ, pr, τ) = pL F d 102 F 0 [(0, .inr (some (7, 0))), (1, .inl x1)] [] (c, σ, pr, τ) := id rfl
theorem T102_0 (F d f : Nat) (x1 : Int32) (c : Nat → Nat) (σ : mSg) (τ : mLg) :
    pL F d 102 (f + 28) 0 [(0, .inr (some (7, 0))), (1, .inl x1)] [] (c, σ, pr, τ) = (if x1 < 0 ∨ 32 ≤ Int32.toNatClampNeg x1 then none else (if x1 < 0 ∨ 32 ≤ Int32.toNatClampNeg x1 then none else (if x1 < 0 ∨ 32 ≤ Int32.toNatClampNeg x1 then none else (if x1 < 0 ∨ 32 ≤ Int32.toNatClampNeg x1 then none else some (.inl (none), (c, (mq_up (mq_up (mq_up (mq_up (mq_up σ 13 37 (Int32.toNatClampNeg x1) 1) 13 39 (Int32.toNatClampNeg x1) (-1)) 13 40 (Int32.toNatClampNeg x1) (-1)) 13 41 (Int32.toNatClampNeg x1) ((mq_up (mq_up (mq_up σ 13 37 (Int32.toNatClampNeg x1) 1) 13 39 (Int32.toNatClampNeg x1) (-1)) 13 40 (Int32.toNatClampNeg x1) (-1)) 7 0 27)) 7 0 27 (((mq_up (mq_up (mq_up (mq_up σ 13 37 (Int32.toNatClampNeg x1) 1) 13 39 (Int32.toNatClampNeg x1) (-1)) 13 40 (Int32.toNatClampNeg x1) (-1)) 13 41 (Int32.toNatClampNeg x1) ((mq_up (mq_up (mq_up σ 13 37 (Int32.toNatClampNeg x1) 1) 13 39 (Int32.toNatClampNeg x1) (-1)) 13 40 (Int32.toNatClampNeg x1) (-1)) 7 0 27)) 7 0 27) + 1)), pr, τ)))))) := id rfl
/-! PartitionKernelModel.start(I)V -/
theorem T103 (F d : Nat) (x1 : Int32) (c : Nat → Nat) (σ : mSg) (τ : mLg) :
    pX F (d + 1) 103 [.inr (some (7, 0)), .inl x1] (c, σ, pr, τ) = pL F d 103 F 0 [(0, .inr (some (7, 0))), (1, .inl x1)] [] (c, σ, pr, τ) := id rfl
theorem T103_0 (F d f : Nat) (x1 : Int32) (c : Nat → Nat) (σ : mSg) (τ : mLg) :
    pL F d 103 (f + 2) 0 [(0, .inr (some (7, 0))), (1, .inl x1)] [] (c, σ, pr, τ) = pL F d 103 f 2 [(0, .inr (some (7, 0))), (1, .inl x1), (2, .inl 0)] [] (c, σ, pr, τ) := id rfl
theorem T103_2 (F d f : Nat) (x1 x2 : Int32) (c : Nat → Nat) (σ : mSg) (τ : mLg) :
    pL F d 103 (f + 3) 2 [(0, .inr (some (7, 0))), (1, .inl x1), (2, .inl x2)] [] (c, σ, pr, τ) = (if x2 < 32 then pL F d 103 f 8 [(0, .inr (some (7, 0))), (1, .inl x1), (2, .inl x2)] [] (c, σ, pr, τ) else pL F d 103 f 26 [(0, .inr (some (7, 0))), (1, .inl x1), (2, .inl x2)] [] (c, σ, pr, τ)) := id rfl
theorem T103_8 (F d f : Nat) (x1 x2 : Int32) (c : Nat → Nat) (σ : mSg) (τ : mLg) :
    pL F d 103 (f + 11) 8 [(0, .inr (some (7, 0))), (1, .inl x1), (2, .inl x2)] [] (c, σ, pr, τ) = (if ((32 * x1) + x2) < 0 ∨ 1024 ≤ Int32.toNatClampNeg ((32 * x1) + x2) then none else pL F d 103 f 2 [(0, .inr (some (7, 0))), (1, .inl x1), (2, .inl (x2 + 1))] [] (c, (mq_up σ 16 0 (Int32.toNatClampNeg ((32 * x1) + x2)) 0), pr, τ)) := id rfl
theorem T103_26 (F d f : Nat) (x1 x2 : Int32) (c : Nat → Nat) (σ : mSg) (τ : mLg) :
    pL F d 103 (f + 22) 26 [(0, .inr (some (7, 0))), (1, .inl x1), (2, .inl x2)] [] (c, σ, pr, τ) = (if x1 < 0 ∨ 32 ≤ Int32.toNatClampNeg x1 then none else (if x1 < 0 ∨ 32 ≤ Int32.toNatClampNeg x1 then none else (if x1 < 0 ∨ 32 ≤ Int32.toNatClampNeg x1 then none else (if x1 < 0 ∨ 32 ≤ Int32.toNatClampNeg x1 then none else (if 0 < ((mq_up (mq_up σ 13 36 (Int32.toNatClampNeg x1) (σ 13 32 (Int32.toNatClampNeg x1))) 13 43 (Int32.toNatClampNeg x1) ((mq_up σ 13 36 (Int32.toNatClampNeg x1) (σ 13 32 (Int32.toNatClampNeg x1))) 7 0 2)) 13 35 (Int32.toNatClampNeg x1)) then pL F d 103 f 62 [(0, .inr (some (7, 0))), (1, .inl x1), (2, .inl x2)] [.inl x1, .inr (.inl (some (13, 38)))] (c, (mq_up (mq_up σ 13 36 (Int32.toNatClampNeg x1) (σ 13 32 (Int32.toNatClampNeg x1))) 13 43 (Int32.toNatClampNeg x1) ((mq_up σ 13 36 (Int32.toNatClampNeg x1) (σ 13 32 (Int32.toNatClampNeg x1))) 7 0 2)), pr, τ) else pL F d 103 f 76 [(0, .inr (some (7, 0))), (1, .inl x1), (2, .inl x2)] [.inl x1, .inr (.inl (some (13, 38)))] (c, (mq_up (mq_up σ 13 36 (Int32.toNatClampNeg x1) (σ 13 32 (Int32.toNatClampNeg x1))) 13 43 (Int32.toNatClampNeg x1) ((mq_up σ 13 36 (Int32.toNatClampNeg x1) (σ 13 32 (Int32.toNatClampNeg x1))) 7 0 2)), pr, τ)))))) := id rfl
theorem T103_62 (F d f r_1 : Nat) (x1 x2 x_0 : Int32) (c : Nat → Nat) (σ : mSg) (τ : mLg) :
    pL F d 103 (f + 12) 62 [(0, .inr (some (7, 0))), (1, .inl x1), (2, .inl x2)] [.inl x_0, .inr (.inl (some (13, r_1)))] (c, σ, pr, τ) = (if x1 < 0 ∨ 32 ≤ Int32.toNatClampNeg x1 then none else (if x_0 < 0 ∨ 32 ≤ Int32.toNatClampNeg x_0 then none else mq_kv (pX F d 102 [.inr (some (7, 0)), .inl x1] (c, (mq_up σ 13 r_1 (Int32.toNatClampNeg x_0) ((σ 7 0 2) + (σ 13 35 (Int32.toNatClampNeg x1)))), pr, τ)) (fun w M => pL F d 103 f 83 [(0, .inr (some (7, 0))), (1, .inl x1), (2, .inl x2)] (mq_psh w []) M))) := id rfl
theorem T103_76 (F d f r_1 : Nat) (x1 x2 x_0 : Int32) (c : Nat → Nat) (σ : mSg) (τ : mLg) :
    pL F d 103 (f + 5) 76 [(0, .inr (some (7, 0))), (1, .inl x1), (2, .inl x2)] [.inl x_0, .inr (.inl (some (13, r_1)))] (c, σ, pr, τ) = (if x_0 < 0 ∨ 32 ≤ Int32.toNatClampNeg x_0 then none else mq_kv (pX F d 102 [.inr (some (7, 0)), .inl x1] (c, (mq_up σ 13 r_1 (Int32.toNatClampNeg x_0) (-1)), pr, τ)) (fun w M => pL F d 103 f 83 [(0, .inr (some (7, 0))), (1, .inl x1), (2, .inl x2)] (mq_psh w []) M)) := id rfl
theorem T103_83 (F d f : Nat) (x1 x2 : Int32) (c : Nat → Nat) (σ : mSg) (τ : mLg) :
    pL F d 103 (f + 1) 83 [(0, .inr (some (7, 0))), (1, .inl x1), (2, .inl x2)] [] (c, σ, pr, τ) = some (.inl (none), (c, σ, pr, τ)) := id rfl
/-! PartitionKernelModel.sleep(I)V -/
theorem T104 (F d : Nat) (x1 : Int32) (c : Nat → Nat) (σ : mSg) (τ : mLg) :
    pX F (d + 1) 104 [.inr (some (7, 0)), .inl x1] (c, σ, pr, τ) = pL F d 104 F 0 [(0, .inr (some (7, 0))), (1, .inl x1)] [] (c, σ, pr, τ) := id rfl
theorem T104_0 (F d f : Nat) (x1 : Int32) (c : Nat → Nat) (σ : mSg) (τ : mLg) :
    pL F d 104 (f + 21) 0 [(0, .inr (some (7, 0))), (1, .inl x1)] [] (c, σ, pr, τ) = (if x1 < 0 ∨ 32 ≤ Int32.toNatClampNeg x1 then none else (if x1 < 0 ∨ 32 ≤ Int32.toNatClampNeg x1 then none else (if x1 < 0 ∨ 32 ≤ Int32.toNatClampNeg x1 then none else (if x1 < 0 ∨ 32 ≤ Int32.toNatClampNeg x1 then none else some (.inl (none), (c, (mq_up (mq_up (mq_up (mq_up σ 13 37 (Int32.toNatClampNeg x1) 0) 13 38 (Int32.toNatClampNeg x1) (-1)) 13 39 (Int32.toNatClampNeg x1) (-1)) 13 40 (Int32.toNatClampNeg x1) (-1)), pr, τ)))))) := id rfl
/-! PartitionKernelModel.restart(I)V -/
theorem T105 (F d : Nat) (x1 : Int32) (c : Nat → Nat) (σ : mSg) (τ : mLg) :
    pX F (d + 1) 105 [.inr (some (7, 0)), .inl x1] (c, σ, pr, τ) = pL F d 105 F 0 [(0, .inr (some (7, 0))), (1, .inl x1)] [] (c, σ, pr, τ) := id rfl
theorem T105_0 (F d f : Nat) (x1 : Int32) (c : Nat → Nat) (σ : mSg) (τ : mLg) :
    pL F d 105 (f + 10) 0 [(0, .inr (some (7, 0))), (1, .inl x1)] [] (c, σ, pr, τ) = (if x1 < 0 ∨ 4 ≤ Int32.toNatClampNeg x1 then none else (if x1 < 0 ∨ 4 ≤ Int32.toNatClampNeg x1 then none else pL F d 105 f 12 [(0, .inr (some (7, 0))), (1, .inl x1), (2, .inl 0)] [] (c, (mq_up σ 10 9 (Int32.toNatClampNeg x1) ((σ 10 9 (Int32.toNatClampNeg x1)) + 1)), pr, τ))) := id rfl
theorem T105_12 (F d f : Nat) (x1 x2 : Int32) (c : Nat → Nat) (σ : mSg) (τ : mLg) :
    pL F d 105 (f + 3) 12 [(0, .inr (some (7, 0))), (1, .inl x1), (2, .inl x2)] [] (c, σ, pr, τ) = (if x2 < 4 then pL F d 105 f 17 [(0, .inr (some (7, 0))), (1, .inl x1), (2, .inl x2)] [] (c, σ, pr, τ) else pL F d 105 f 34 [(0, .inr (some (7, 0))), (1, .inl x1), (2, .inl x2)] [] (c, σ, pr, τ)) := id rfl
theorem T105_17 (F d f : Nat) (x1 x2 : Int32) (c : Nat → Nat) (σ : mSg) (τ : mLg) :
    pL F d 105 (f + 11) 17 [(0, .inr (some (7, 0))), (1, .inl x1), (2, .inl x2)] [] (c, σ, pr, τ) = (if ((4 * x1) + x2) < 0 ∨ 16 ≤ Int32.toNatClampNeg ((4 * x1) + x2) then none else pL F d 105 f 12 [(0, .inr (some (7, 0))), (1, .inl x1), (2, .inl (x2 + 1))] [] (c, (mq_up σ 12 1 (Int32.toNatClampNeg ((4 * x1) + x2)) 0), pr, τ)) := id rfl
theorem T105_34 (F d f : Nat) (x1 x2 : Int32) (c : Nat → Nat) (σ : mSg) (τ : mLg) :
    pL F d 105 (f + 2) 34 [(0, .inr (some (7, 0))), (1, .inl x1), (2, .inl x2)] [] (c, σ, pr, τ) = pL F d 105 f 36 [(0, .inr (some (7, 0))), (1, .inl x1), (2, .inl 0)] [] (c, σ, pr, τ) := id rfl
theorem T105_36 (F d f : Nat) (x1 x2 : Int32) (c : Nat → Nat) (σ : mSg) (τ : mLg) :
    pL F d 105 (f + 6) 36 [(0, .inr (some (7, 0))), (1, .inl x1), (2, .inl x2)] [] (c, σ, pr, τ) = (if x1 < 0 ∨ 4 ≤ Int32.toNatClampNeg x1 then none else (if x2 < (σ 10 8 (Int32.toNatClampNeg x1)) then pL F d 105 f 46 [(0, .inr (some (7, 0))), (1, .inl x1), (2, .inl x2)] [] (c, σ, pr, τ) else pL F d 105 f 62 [(0, .inr (some (7, 0))), (1, .inl x1), (2, .inl x2)] [] (c, σ, pr, τ))) := id rfl
theorem T105_46 (F d f : Nat) (x1 x2 : Int32) (c : Nat → Nat) (σ : mSg) (τ : mLg) :
    pL F d 105 (f + 7) 46 [(0, .inr (some (7, 0))), (1, .inl x1), (2, .inl x2)] [] (c, σ, pr, τ) = mq_kv (pX F d 103 [.inr (some (7, 0)), .inl ((8 * x1) + x2)] (c, σ, pr, τ)) (fun w M => pL F d 105 f 56 [(0, .inr (some (7, 0))), (1, .inl x1), (2, .inl x2)] (mq_psh w []) M) := id rfl
theorem T105_62 (F d f : Nat) (x1 x2 : Int32) (c : Nat → Nat) (σ : mSg) (τ : mLg) :
    pL F d 105 (f + 1) 62 [(0, .inr (some (7, 0))), (1, .inl x1), (2, .inl x2)] [] (c, σ, pr, τ) = some (.inl (none), (c, σ, pr, τ)) := id rfl
theorem T105_56 (F d f : Nat) (x1 x2 : Int32) (c : Nat → Nat) (σ : mSg) (τ : mLg) :
    pL F d 105 (f + 2) 56 [(0, .inr (some (7, 0))), (1, .inl x1), (2, .inl x2)] [] (c, σ, pr, τ) = pL F d 105 f 36 [(0, .inr (some (7, 0))), (1, .inl x1), (2, .inl (x2 + 1))] [] (c, σ, pr, τ) := id rfl
/-! PartitionKernelModel.fails(III)Z -/
theorem T106 (F d : Nat) (x1 x2 x3 : Int32) (c : Nat → Nat) (σ : mSg) (τ : mLg) :
    pX F (d + 1) 106 [.inr (some (7, 0)), .inl x1, .inl x2, .inl x3] (c, σ, pr, τ) = pL F d 106 F 0 [(0, .inr (some (7, 0))), (1, .inl x1), (2, .inl x2), (3, .inl x3)] [] (c, σ, pr, τ) := id rfl
theorem T106_0 (F d f : Nat) (x1 x2 x3 : Int32) (c : Nat → Nat) (σ : mSg) (τ : mLg) :
    pL F d 106 (f + 47) 0 [(0, .inr (some (7, 0))), (1, .inl x1), (2, .inl x2), (3, .inl x3)] [] (c, σ, pr, τ) = (if ((σ 7 0 36) - (σ 7 0 36) / 64 * 64) < 0 ∨ 64 ≤ Int32.toNatClampNeg ((σ 7 0 36) - (σ 7 0 36) / 64 * 64) then none else (if ((σ 7 0 36) - (σ 7 0 36) / 64 * 64) < 0 ∨ 64 ≤ Int32.toNatClampNeg ((σ 7 0 36) - (σ 7 0 36) / 64 * 64) then none else (if ((σ 7 0 36) - (σ 7 0 36) / 64 * 64) < 0 ∨ 64 ≤ Int32.toNatClampNeg ((σ 7 0 36) - (σ 7 0 36) / 64 * 64) then none else (if ((σ 7 0 36) - (σ 7 0 36) / 64 * 64) < 0 ∨ 64 ≤ Int32.toNatClampNeg ((σ 7 0 36) - (σ 7 0 36) / 64 * 64) then none else (if ((4 * x1) + x3) < 0 ∨ 16 ≤ Int32.toNatClampNeg ((4 * x1) + x3) then none else pL F d 106 f (mq_swt ((mq_up (mq_up (mq_up (mq_up (mq_up σ 14 5 (Int32.toNatClampNeg ((σ 7 0 36) - (σ 7 0 36) / 64 * 64)) (σ 7 0 2)) 14 6 (Int32.toNatClampNeg ((σ 7 0 36) - (σ 7 0 36) / 64 * 64)) x1) 14 7 (Int32.toNatClampNeg ((σ 7 0 36) - (σ 7 0 36) / 64 * 64)) x2) 14 8 (Int32.toNatClampNeg ((σ 7 0 36) - (σ 7 0 36) / 64 * 64)) x3) 7 0 36 (((mq_up (mq_up (mq_up (mq_up σ 14 5 (Int32.toNatClampNeg ((σ 7 0 36) - (σ 7 0 36) / 64 * 64)) (σ 7 0 2)) 14 6 (Int32.toNatClampNeg ((σ 7 0 36) - (σ 7 0 36) / 64 * 64)) x1) 14 7 (Int32.toNatClampNeg ((σ 7 0 36) - (σ 7 0 36) / 64 * 64)) x2) 14 8 (Int32.toNatClampNeg ((σ 7 0 36) - (σ 7 0 36) / 64 * 64)) x3) 7 0 36) + 1)) 12 0 (Int32.toNatClampNeg ((4 * x1) + x3))) 145 [(0, 104), (1, 122), (2, 130), (3, 138)]) [(0, .inr (some (7, 0))), (1, .inl x1), (2, .inl x2), (3, .inl x3), (4, .inl ((σ 7 0 36) - (σ 7 0 36) / 64 * 64)), (5, .inl ((8 * x1) + x2))] [] (c, (mq_up (mq_up (mq_up (mq_up (mq_up σ 14 5 (Int32.toNatClampNeg ((σ 7 0 36) - (σ 7 0 36) / 64 * 64)) (σ 7 0 2)) 14 6 (Int32.toNatClampNeg ((σ 7 0 36) - (σ 7 0 36) / 64 * 64)) x1) 14 7 (Int32.toNatClampNeg ((σ 7 0 36) - (σ 7 0 36) / 64 * 64)) x2) 14 8 (Int32.toNatClampNeg ((σ 7 0 36) - (σ 7 0 36) / 64 * 64)) x3) 7 0 36 (((mq_up (mq_up (mq_up (mq_up σ 14 5 (Int32.toNatClampNeg ((σ 7 0 36) - (σ 7 0 36) / 64 * 64)) (σ 7 0 2)) 14 6 (Int32.toNatClampNeg ((σ 7 0 36) - (σ 7 0 36) / 64 * 64)) x1) 14 7 (Int32.toNatClampNeg ((σ 7 0 36) - (σ 7 0 36) / 64 * 64)) x2) 14 8 (Int32.toNatClampNeg ((σ 7 0 36) - (σ 7 0 36) / 64 * 64)) x3) 7 0 36) + 1)), pr, τ)))))) := id rfl
theorem T106_104 (F d f : Nat) (x1 x2 x3 x4 x5 : Int32) (c : Nat → Nat) (σ : mSg) (τ : mLg) :
    pL F d 106 (f + 3) 104 [(0, .inr (some (7, 0))), (1, .inl x1), (2, .inl x2), (3, .inl x3), (4, .inl x4), (5, .inl x5)] [] (c, σ, pr, τ) = (if x3 = 2 then pL F d 106 f 120 [(0, .inr (some (7, 0))), (1, .inl x1), (2, .inl x2), (3, .inl x3), (4, .inl x4), (5, .inl x5)] [] (c, σ, pr, τ) else pL F d 106 f 109 [(0, .inr (some (7, 0))), (1, .inl x1), (2, .inl x2), (3, .inl x3), (4, .inl x4), (5, .inl x5)] [] (c, σ, pr, τ)) := id rfl
theorem T106_122 (F d f : Nat) (x1 x2 x3 x4 x5 : Int32) (c : Nat → Nat) (σ : mSg) (τ : mLg) :
    pL F d 106 (f + 3) 122 [(0, .inr (some (7, 0))), (1, .inl x1), (2, .inl x2), (3, .inl x3), (4, .inl x4), (5, .inl x5)] [] (c, σ, pr, τ) = mq_kv (pX F d 104 [.inr (some (7, 0)), .inl x5] (c, σ, pr, τ)) (fun w M => pL F d 106 f 128 [(0, .inr (some (7, 0))), (1, .inl x1), (2, .inl x2), (3, .inl x3), (4, .inl x4), (5, .inl x5)] (mq_psh w []) M) := id rfl
theorem T106_130 (F d f : Nat) (x1 x2 x3 x4 x5 : Int32) (c : Nat → Nat) (σ : mSg) (τ : mLg) :
    pL F d 106 (f + 3) 130 [(0, .inr (some (7, 0))), (1, .inl x1), (2, .inl x2), (3, .inl x3), (4, .inl x4), (5, .inl x5)] [] (c, σ, pr, τ) = mq_kv (pX F d 103 [.inr (some (7, 0)), .inl x5] (c, σ, pr, τ)) (fun w M => pL F d 106 f 136 [(0, .inr (some (7, 0))), (1, .inl x1), (2, .inl x2), (3, .inl x3), (4, .inl x4), (5, .inl x5)] (mq_psh w []) M) := id rfl
theorem T106_138 (F d f : Nat) (x1 x2 x3 x4 x5 : Int32) (c : Nat → Nat) (σ : mSg) (τ : mLg) :
    pL F d 106 (f + 3) 138 [(0, .inr (some (7, 0))), (1, .inl x1), (2, .inl x2), (3, .inl x3), (4, .inl x4), (5, .inl x5)] [] (c, σ, pr, τ) = mq_kv (pX F d 105 [.inr (some (7, 0)), .inl x1] (c, σ, pr, τ)) (fun w M => pL F d 106 f 143 [(0, .inr (some (7, 0))), (1, .inl x1), (2, .inl x2), (3, .inl x3), (4, .inl x4), (5, .inl x5)] (mq_psh w []) M) := id rfl
theorem T106_145 (F d f : Nat) (x1 x2 x3 x4 x5 : Int32) (c : Nat → Nat) (σ : mSg) (τ : mLg) :
    pL F d 106 (f + 7) 145 [(0, .inr (some (7, 0))), (1, .inl x1), (2, .inl x2), (3, .inl x3), (4, .inl x4), (5, .inl x5)] [] (c, σ, pr, τ) = (if x1 < 0 ∨ 4 ≤ Int32.toNatClampNeg x1 then none else some (.inl (some (.inl 1)), (c, (mq_up σ 31 0 (Int32.toNatClampNeg x1) 1), pr, τ))) := id rfl
theorem T106_120 (F d f : Nat) (x1 x2 x3 x4 x5 : Int32) (c : Nat → Nat) (σ : mSg) (τ : mLg) :
    pL F d 106 (f + 2) 120 [(0, .inr (some (7, 0))), (1, .inl x1), (2, .inl x2), (3, .inl x3), (4, .inl x4), (5, .inl x5)] [] (c, σ, pr, τ) = some (.inl (some (.inl 0)), (c, σ, pr, τ)) := id rfl
theorem T106_109 (F d f : Nat) (x1 x2 x3 x4 x5 : Int32) (c : Nat → Nat) (σ : mSg) (τ : mLg) :
    pL F d 106 (f + 10) 109 [(0, .inr (some (7, 0))), (1, .inl x1), (2, .inl x2), (3, .inl x3), (4, .inl x4), (5, .inl x5)] [] (c, σ, pr, τ) = (if x5 < 0 ∨ 32 ≤ Int32.toNatClampNeg x5 then none else (if x5 < 0 ∨ 32 ≤ Int32.toNatClampNeg x5 then none else some (.inl (some (.inl 0)), (c, (mq_up σ 13 36 (Int32.toNatClampNeg x5) ((σ 13 36 (Int32.toNatClampNeg x5)) + 4)), pr, τ)))) := id rfl
theorem T106_128 (F d f : Nat) (x1 x2 x3 x4 x5 : Int32) (c : Nat → Nat) (σ : mSg) (τ : mLg) :
    pL F d 106 (f + 2) 128 [(0, .inr (some (7, 0))), (1, .inl x1), (2, .inl x2), (3, .inl x3), (4, .inl x4), (5, .inl x5)] [] (c, σ, pr, τ) = some (.inl (some (.inl 0)), (c, σ, pr, τ)) := id rfl
theorem T106_136 (F d f : Nat) (x1 x2 x3 x4 x5 : Int32) (c : Nat → Nat) (σ : mSg) (τ : mLg) :
    pL F d 106 (f + 2) 136 [(0, .inr (some (7, 0))), (1, .inl x1), (2, .inl x2), (3, .inl x3), (4, .inl x4), (5, .inl x5)] [] (c, σ, pr, τ) = some (.inl (some (.inl 0)), (c, σ, pr, τ)) := id rfl
theorem T106_143 (F d f : Nat) (x1 x2 x3 x4 x5 : Int32) (c : Nat → Nat) (σ : mSg) (τ : mLg) :
    pL F d 106 (f + 2) 143 [(0, .inr (some (7, 0))), (1, .inl x1), (2, .inl x2), (3, .inl x3), (4, .inl x4), (5, .inl x5)] [] (c, σ, pr, τ) = some (.inl (some (.inl 1)), (c, σ, pr, τ)) := id rfl
/-! PartitionKernelModel.isPlace(II)Z -/
theorem T107 (F d : Nat) (x0 x1 : Int32) (c : Nat → Nat) (σ : mSg) (τ : mLg) :
    pX F (d + 1) 107 [.inl x0, .inl x1] (c, σ, pr, τ) = pL F d 107 F 0 [(0, .inl x0), (1, .inl x1)] [] (c, σ, pr, τ) := id rfl
theorem T107_0 (F d f : Nat) (x0 x1 : Int32) (c : Nat → Nat) (σ : mSg) (τ : mLg) :
    pL F d 107 (f + 3) 0 [(0, .inl x0), (1, .inl x1)] [] (c, σ, pr, τ) = mq_ks (pX F d 101 [.inl x0, .inl 1024] (c, σ, pr, τ)) (fun w M => pL F d 107 f 7 [(0, .inl x0), (1, .inl x1)] (mq_psh w []) M) := id rfl
theorem T107_7 (F d f : Nat) (x0 x1 x_0 : Int32) (c : Nat → Nat) (σ : mSg) (τ : mLg) :
    pL F d 107 (f + 1) 7 [(0, .inl x0), (1, .inl x1)] [.inl x_0] (c, σ, pr, τ) = (if x_0 = 0 then pL F d 107 f 20 [(0, .inl x0), (1, .inl x1)] [] (c, σ, pr, τ) else pL F d 107 f 10 [(0, .inl x0), (1, .inl x1)] [] (c, σ, pr, τ)) := id rfl
theorem T107_20 (F d f : Nat) (x0 x1 : Int32) (c : Nat → Nat) (σ : mSg) (τ : mLg) :
    pL F d 107 (f + 2) 20 [(0, .inl x0), (1, .inl x1)] [] (c, σ, pr, τ) = some (.inl (some (.inl 0)), (c, σ, pr, τ)) := id rfl
theorem T107_10 (F d f : Nat) (x0 x1 : Int32) (c : Nat → Nat) (σ : mSg) (τ : mLg) :
    pL F d 107 (f + 4) 10 [(0, .inl x0), (1, .inl x1)] [] (c, σ, pr, τ) = (if x1 = 0 then none else (if (x0 - x0 / x1 * x1) = 0 then pL F d 107 f 16 [(0, .inl x0), (1, .inl x1)] [] (c, σ, pr, τ) else pL F d 107 f 20 [(0, .inl x0), (1, .inl x1)] [] (c, σ, pr, τ))) := id rfl
theorem T107_16 (F d f : Nat) (x0 x1 : Int32) (c : Nat → Nat) (σ : mSg) (τ : mLg) :
    pL F d 107 (f + 3) 16 [(0, .inl x0), (1, .inl x1)] [] (c, σ, pr, τ) = some (.inl (some (.inl 1)), (c, σ, pr, τ)) := id rfl
/-! PartitionKernelModel.load(III)I -/
theorem T108 (F d : Nat) (x1 x2 x3 : Int32) (c : Nat → Nat) (σ : mSg) (τ : mLg) :
    pX F (d + 1) 108 [.inr (some (7, 0)), .inl x1, .inl x2, .inl x3] (c, σ, pr, τ) = pL F d 108 F 0 [(0, .inr (some (7, 0))), (1, .inl x1), (2, .inl x2), (3, .inl x3)] [] (c, σ, pr, τ) := id rfl
theorem T108_0 (F d f : Nat) (x1 x2 x3 : Int32) (c : Nat → Nat) (σ : mSg) (τ : mLg) :
    pL F d 108 (f + 6) 0 [(0, .inr (some (7, 0))), (1, .inl x1), (2, .inl x2), (3, .inl x3)] [] (c, σ, pr, τ) = pL F d 108 f 8 [(0, .inr (some (7, 0))), (1, .inl x1), (2, .inl x2), (3, .inl x3), (4, .inl 0), (5, .inl (x3 - 1))] [] (c, σ, pr, τ) := id rfl
theorem T108_8 (F d f : Nat) (x1 x2 x3 x4 x5 : Int32) (c : Nat → Nat) (σ : mSg) (τ : mLg) :
    pL F d 108 (f + 2) 8 [(0, .inr (some (7, 0))), (1, .inl x1), (2, .inl x2), (3, .inl x3), (4, .inl x4), (5, .inl x5)] [] (c, σ, pr, τ) = (if x5 < 0 then pL F d 108 f 46 [(0, .inr (some (7, 0))), (1, .inl x1), (2, .inl x2), (3, .inl x3), (4, .inl x4), (5, .inl x5)] [] (c, σ, pr, τ) else pL F d 108 f 13 [(0, .inr (some (7, 0))), (1, .inl x1), (2, .inl x2), (3, .inl x3), (4, .inl x4), (5, .inl x5)] [] (c, σ, pr, τ)) := id rfl
theorem T108_46 (F d f : Nat) (x1 x2 x3 x4 x5 : Int32) (c : Nat → Nat) (σ : mSg) (τ : mLg) :
    pL F d 108 (f + 2) 46 [(0, .inr (some (7, 0))), (1, .inl x1), (2, .inl x2), (3, .inl x3), (4, .inl x4), (5, .inl x5)] [] (c, σ, pr, τ) = some (.inl (some (.inl x4)), (c, σ, pr, τ)) := id rfl
theorem T108_13 (F d f : Nat) (x1 x2 x3 x4 x5 : Int32) (c : Nat → Nat) (σ : mSg) (τ : mLg) :
    pL F d 108 (f + 19) 13 [(0, .inr (some (7, 0))), (1, .inl x1), (2, .inl x2), (3, .inl x3), (4, .inl x4), (5, .inl x5)] [] (c, σ, pr, τ) = (if (((1024 * x1) + x2) + x5) < 0 ∨ 4096 ≤ Int32.toNatClampNeg (((1024 * x1) + x2) + x5) then none else pL F d 108 f 8 [(0, .inr (some (7, 0))), (1, .inl x1), (2, .inl x2), (3, .inl x3), (4, .inl ((x4 <<< (8 &&& 31)) ||| ((σ 30 0 (Int32.toNatClampNeg (((1024 * x1) + x2) + x5))) &&& 255))), (5, .inl (x5 + (-1)))] [] (c, σ, pr, τ)) := id rfl
/-! PartitionKernelModel.store(IIII)V -/
theorem T109 (F d : Nat) (x1 x2 x3 x4 : Int32) (c : Nat → Nat) (σ : mSg) (τ : mLg) :
    pX F (d + 1) 109 [.inr (some (7, 0)), .inl x1, .inl x2, .inl x3, .inl x4] (c, σ, pr, τ) = pL F d 109 F 0 [(0, .inr (some (7, 0))), (1, .inl x1), (2, .inl x2), (3, .inl x3), (4, .inl x4)] [] (c, σ, pr, τ) := id rfl
theorem T109_0 (F d f : Nat) (x1 x2 x3 x4 : Int32) (c : Nat → Nat) (σ : mSg) (τ : mLg) :
    pL F d 109 (f + 2) 0 [(0, .inr (some (7, 0))), (1, .inl x1), (2, .inl x2), (3, .inl x3), (4, .inl x4)] [] (c, σ, pr, τ) = pL F d 109 f 3 [(0, .inr (some (7, 0))), (1, .inl x1), (2, .inl x2), (3, .inl x3), (4, .inl x4), (5, .inl 0)] [] (c, σ, pr, τ) := id rfl
theorem T109_3 (F d f : Nat) (x1 x2 x3 x4 x5 : Int32) (c : Nat → Nat) (σ : mSg) (τ : mLg) :
    pL F d 109 (f + 3) 3 [(0, .inr (some (7, 0))), (1, .inl x1), (2, .inl x2), (3, .inl x3), (4, .inl x4), (5, .inl x5)] [] (c, σ, pr, τ) = (if x5 < x3 then pL F d 109 f 9 [(0, .inr (some (7, 0))), (1, .inl x1), (2, .inl x2), (3, .inl x3), (4, .inl x4), (5, .inl x5)] [] (c, σ, pr, τ) else pL F d 109 f 39 [(0, .inr (some (7, 0))), (1, .inl x1), (2, .inl x2), (3, .inl x3), (4, .inl x4), (5, .inl x5)] [] (c, σ, pr, τ)) := id rfl
theorem T109_9 (F d f : Nat) (x1 x2 x3 x4 x5 : Int32) (c : Nat → Nat) (σ : mSg) (τ : mLg) :
    pL F d 109 (f + 18) 9 [(0, .inr (some (7, 0))), (1, .inl x1), (2, .inl x2), (3, .inl x3), (4, .inl x4), (5, .inl x5)] [] (c, σ, pr, τ) = (if (((1024 * x1) + x2) + x5) < 0 ∨ 4096 ≤ Int32.toNatClampNeg (((1024 * x1) + x2) + x5) then none else pL F d 109 f 3 [(0, .inr (some (7, 0))), (1, .inl x1), (2, .inl x2), (3, .inl x3), (4, .inl x4), (5, .inl (x5 + 1))] [] (c, (mq_up σ 30 0 (Int32.toNatClampNeg (((1024 * x1) + x2) + x5)) (Int8.toInt32 (Int32.toInt8 (Int8.toInt32 (Int32.toInt8 (x4 >>> ((8 * x5) &&& 31))))))), pr, τ)) := id rfl
theorem T109_39 (F d f : Nat) (x1 x2 x3 x4 x5 : Int32) (c : Nat → Nat) (σ : mSg) (τ : mLg) :
    pL F d 109 (f + 1) 39 [(0, .inr (some (7, 0))), (1, .inl x1), (2, .inl x2), (3, .inl x3), (4, .inl x4), (5, .inl x5)] [] (c, σ, pr, τ) = some (.inl (none), (c, σ, pr, τ)) := id rfl
/-! PartitionKernelModel.bits(III)I -/
theorem T110 (F d : Nat) (x0 x1 x2 : Int32) (c : Nat → Nat) (σ : mSg) (τ : mLg) :
    pX F (d + 1) 110 [.inl x0, .inl x1, .inl x2] (c, σ, pr, τ) = pL F d 110 F 0 [(0, .inl x0), (1, .inl x1), (2, .inl x2)] [] (c, σ, pr, τ) := id rfl
theorem T110_0 (F d f : Nat) (x0 x1 x2 : Int32) (c : Nat → Nat) (σ : mSg) (τ : mLg) :
    pL F d 110 (f + 10) 0 [(0, .inl x0), (1, .inl x1), (2, .inl x2)] [] (c, σ, pr, τ) = some (.inl (some (.inl (((Int32.toUInt32 x0 >>> (Int32.toUInt32 x1 &&& Int32.toUInt32 31)).toInt32) &&& ((1 <<< (x2 &&& 31)) - 1)))), (c, σ, pr, τ)) := id rfl
/-! PartitionKernelModel.isBelow(II)Z -/
theorem T111 (F d : Nat) (x0 x1 : Int32) (c : Nat → Nat) (σ : mSg) (τ : mLg) :
    pX F (d + 1) 111 [.inl x0, .inl x1] (c, σ, pr, τ) = pL F d 111 F 0 [(0, .inl x0), (1, .inl x1)] [] (c, σ, pr, τ) := id rfl
theorem T111_0 (F d f : Nat) (x0 x1 : Int32) (c : Nat → Nat) (σ : mSg) (τ : mLg) :
    pL F d 111 (f + 10) 0 [(0, .inl x0), (1, .inl x1)] [] (c, σ, pr, τ) = (if (lg_cmp ((Int32.toInt64 x0) &&& (Int64.ofNat 4294967295)) ((Int32.toInt64 x1) &&& (Int64.ofNat 4294967295))) < 0 then pL F d 111 f 16 [(0, .inl x0), (1, .inl x1)] [] (c, σ, pr, τ) else pL F d 111 f 20 [(0, .inl x0), (1, .inl x1)] [] (c, σ, pr, τ)) := id rfl
theorem T111_16 (F d f : Nat) (x0 x1 : Int32) (c : Nat → Nat) (σ : mSg) (τ : mLg) :
    pL F d 111 (f + 3) 16 [(0, .inl x0), (1, .inl x1)] [] (c, σ, pr, τ) = some (.inl (some (.inl 1)), (c, σ, pr, τ)) := id rfl
theorem T111_20 (F d f : Nat) (x0 x1 : Int32) (c : Nat → Nat) (σ : mSg) (τ : mLg) :
    pL F d 111 (f + 2) 20 [(0, .inl x0), (1, .inl x1)] [] (c, σ, pr, τ) = some (.inl (some (.inl 0)), (c, σ, pr, τ)) := id rfl
/-! PartitionKernelModel.give(I)I -/
theorem T112 (F d : Nat) (x1 : Int32) (c : Nat → Nat) (σ : mSg) (τ : mLg) :
    pX F (d + 1) 112 [.inr (some (7, 0)), .inl x1] (c, σ, pr, τ) = pL F d 112 F 0 [(0, .inr (some (7, 0))), (1, .inl x1)] [] (c, σ, pr, τ) := id rfl
theorem T112_0 (F d f : Nat) (x1 : Int32) (c : Nat → Nat) (σ : mSg) (τ : mLg) :
    pL F d 112 (f + 8) 0 [(0, .inr (some (7, 0))), (1, .inl x1)] [] (c, σ, pr, τ) = some (.inl (some (.inl (-1))), (c, (mq_up (mq_up σ 7 0 42 x1) 7 0 43 1), pr, τ)) := id rfl
/-! PartitionKernelModel.loaded(III)I -/
theorem T113 (F d : Nat) (x1 x2 x3 : Int32) (c : Nat → Nat) (σ : mSg) (τ : mLg) :
    pX F (d + 1) 113 [.inr (some (7, 0)), .inl x1, .inl x2, .inl x3] (c, σ, pr, τ) = pL F d 113 F 0 [(0, .inr (some (7, 0))), (1, .inl x1), (2, .inl x2), (3, .inl x3)] [] (c, σ, pr, τ) := id rfl
theorem T113_0 (F d f : Nat) (x1 x2 x3 : Int32) (c : Nat → Nat) (σ : mSg) (τ : mLg) :
    pL F d 113 (f + 3) 0 [(0, .inr (some (7, 0))), (1, .inl x1), (2, .inl x2), (3, .inl x3)] [] (c, σ, pr, τ) = (if x2 = 3 then pL F d 113 f 10 [(0, .inr (some (7, 0))), (1, .inl x1), (2, .inl x2), (3, .inl x3)] [] (c, σ, pr, τ) else pL F d 113 f 5 [(0, .inr (some (7, 0))), (1, .inl x1), (2, .inl x2), (3, .inl x3)] [] (c, σ, pr, τ)) := id rfl
theorem T113_10 (F d f : Nat) (x1 x2 x3 : Int32) (c : Nat → Nat) (σ : mSg) (τ : mLg) :
    pL F d 113 (f + 2) 10 [(0, .inr (some (7, 0))), (1, .inl x1), (2, .inl x2), (3, .inl x3)] [] (c, σ, pr, τ) = some (.inl (some (.inl 0)), (c, σ, pr, τ)) := id rfl
theorem T113_5 (F d f : Nat) (x1 x2 x3 : Int32) (c : Nat → Nat) (σ : mSg) (τ : mLg) :
    pL F d 113 (f + 3) 5 [(0, .inr (some (7, 0))), (1, .inl x1), (2, .inl x2), (3, .inl x3)] [] (c, σ, pr, τ) = (if 5 < x2 then pL F d 113 f 10 [(0, .inr (some (7, 0))), (1, .inl x1), (2, .inl x2), (3, .inl x3)] [] (c, σ, pr, τ) else pL F d 113 f 12 [(0, .inr (some (7, 0))), (1, .inl x1), (2, .inl x2), (3, .inl x3)] [] (c, σ, pr, τ)) := id rfl
theorem T113_12 (F d f : Nat) (x1 x2 x3 : Int32) (c : Nat → Nat) (σ : mSg) (τ : mLg) :
    pL F d 113 (f + 9) 12 [(0, .inr (some (7, 0))), (1, .inl x1), (2, .inl x2), (3, .inl x3)] [] (c, σ, pr, τ) = mq_ks (pX F d 107 [.inl x3, .inl (1 <<< ((x2 &&& 3) &&& 31))] (c, σ, pr, τ)) (fun w M => pL F d 113 f 25 [(0, .inr (some (7, 0))), (1, .inl x1), (2, .inl x2), (3, .inl x3), (4, .inl (1 <<< ((x2 &&& 3) &&& 31)))] (mq_psh w []) M) := id rfl
theorem T113_25 (F d f : Nat) (x1 x2 x3 x4 x_0 : Int32) (c : Nat → Nat) (σ : mSg) (τ : mLg) :
    pL F d 113 (f + 1) 25 [(0, .inr (some (7, 0))), (1, .inl x1), (2, .inl x2), (3, .inl x3), (4, .inl x4)] [.inl x_0] (c, σ, pr, τ) = (if x_0 = 0 then pL F d 113 f 28 [(0, .inr (some (7, 0))), (1, .inl x1), (2, .inl x2), (3, .inl x3), (4, .inl x4)] [] (c, σ, pr, τ) else pL F d 113 f 30 [(0, .inr (some (7, 0))), (1, .inl x1), (2, .inl x2), (3, .inl x3), (4, .inl x4)] [] (c, σ, pr, τ)) := id rfl
theorem T113_28 (F d f : Nat) (x1 x2 x3 x4 : Int32) (c : Nat → Nat) (σ : mSg) (τ : mLg) :
    pL F d 113 (f + 2) 28 [(0, .inr (some (7, 0))), (1, .inl x1), (2, .inl x2), (3, .inl x3), (4, .inl x4)] [] (c, σ, pr, τ) = some (.inl (some (.inl 1)), (c, σ, pr, τ)) := id rfl
theorem T113_30 (F d f : Nat) (x1 x2 x3 x4 : Int32) (c : Nat → Nat) (σ : mSg) (τ : mLg) :
    pL F d 113 (f + 5) 30 [(0, .inr (some (7, 0))), (1, .inl x1), (2, .inl x2), (3, .inl x3), (4, .inl x4)] [] (c, σ, pr, τ) = mq_kv (pX F d 108 [.inr (some (7, 0)), .inl x1, .inl x3, .inl x4] (c, σ, pr, τ)) (fun w M => pL F d 113 f 38 [(0, .inr (some (7, 0))), (1, .inl x1), (2, .inl x2), (3, .inl x3), (4, .inl x4)] (mq_psh w []) M) := id rfl
theorem T113_38 (F d f : Nat) (x1 x2 x3 x4 x_0 : Int32) (c : Nat → Nat) (σ : mSg) (τ : mLg) :
    pL F d 113 (f + 4) 38 [(0, .inr (some (7, 0))), (1, .inl x1), (2, .inl x2), (3, .inl x3), (4, .inl x4)] [.inl x_0] (c, σ, pr, τ) = (if x2 = 0 then pL F d 113 f 45 [(0, .inr (some (7, 0))), (1, .inl x1), (2, .inl x2), (3, .inl x3), (4, .inl x4), (5, .inl x_0)] [.inr (.inl (some (7, 0)))] (c, σ, pr, τ) else pL F d 113 f 56 [(0, .inr (some (7, 0))), (1, .inl x1), (2, .inl x2), (3, .inl x3), (4, .inl x4), (5, .inl x_0)] [.inr (.inl (some (7, 0)))] (c, σ, pr, τ)) := id rfl
theorem T113_45 (F d f : Nat) (x1 x2 x3 x4 x5 : Int32) (c : Nat → Nat) (σ : mSg) (τ : mLg) :
    pL F d 113 (f + 7) 45 [(0, .inr (some (7, 0))), (1, .inl x1), (2, .inl x2), (3, .inl x3), (4, .inl x4), (5, .inl x5)] [.inr (.inl (some (7, 0)))] (c, σ, pr, τ) = mq_kv (pX F d 112 [.inr (some (7, 0)), .inl ((x5 <<< (24 &&& 31)) >>> (24 &&& 31))] (c, σ, pr, τ)) (fun w M => pL F d 113 f 77 [(0, .inr (some (7, 0))), (1, .inl x1), (2, .inl x2), (3, .inl x3), (4, .inl x4), (5, .inl x5)] (mq_psh w []) M) := id rfl
theorem T113_56 (F d f : Nat) (x1 x2 x3 x4 x5 : Int32) (c : Nat → Nat) (σ : mSg) (τ : mLg) :
    pL F d 113 (f + 3) 56 [(0, .inr (some (7, 0))), (1, .inl x1), (2, .inl x2), (3, .inl x3), (4, .inl x4), (5, .inl x5)] [.inr (.inl (some (7, 0)))] (c, σ, pr, τ) = (if x2 = 1 then pL F d 113 f 61 [(0, .inr (some (7, 0))), (1, .inl x1), (2, .inl x2), (3, .inl x3), (4, .inl x4), (5, .inl x5)] [.inr (.inl (some (7, 0)))] (c, σ, pr, τ) else pL F d 113 f 72 [(0, .inr (some (7, 0))), (1, .inl x1), (2, .inl x2), (3, .inl x3), (4, .inl x4), (5, .inl x5)] [.inr (.inl (some (7, 0)))] (c, σ, pr, τ)) := id rfl
theorem T113_77 (F d f : Nat) (x1 x2 x3 x4 x5 x_0 : Int32) (c : Nat → Nat) (σ : mSg) (τ : mLg) :
    pL F d 113 (f + 1) 77 [(0, .inr (some (7, 0))), (1, .inl x1), (2, .inl x2), (3, .inl x3), (4, .inl x4), (5, .inl x5)] [.inl x_0] (c, σ, pr, τ) = some (.inl (some (.inl x_0)), (c, σ, pr, τ)) := id rfl
theorem T113_61 (F d f : Nat) (x1 x2 x3 x4 x5 : Int32) (c : Nat → Nat) (σ : mSg) (τ : mLg) :
    pL F d 113 (f + 7) 61 [(0, .inr (some (7, 0))), (1, .inl x1), (2, .inl x2), (3, .inl x3), (4, .inl x4), (5, .inl x5)] [.inr (.inl (some (7, 0)))] (c, σ, pr, τ) = mq_kv (pX F d 112 [.inr (some (7, 0)), .inl ((x5 <<< (16 &&& 31)) >>> (16 &&& 31))] (c, σ, pr, τ)) (fun w M => pL F d 113 f 77 [(0, .inr (some (7, 0))), (1, .inl x1), (2, .inl x2), (3, .inl x3), (4, .inl x4), (5, .inl x5)] (mq_psh w []) M) := id rfl
theorem T113_72 (F d f : Nat) (x1 x2 x3 x4 x5 : Int32) (c : Nat → Nat) (σ : mSg) (τ : mLg) :
    pL F d 113 (f + 2) 72 [(0, .inr (some (7, 0))), (1, .inl x1), (2, .inl x2), (3, .inl x3), (4, .inl x4), (5, .inl x5)] [.inr (.inl (some (7, 0)))] (c, σ, pr, τ) = mq_kv (pX F d 112 [.inr (some (7, 0)), .inl x5] (c, σ, pr, τ)) (fun w M => pL F d 113 f 77 [(0, .inr (some (7, 0))), (1, .inl x1), (2, .inl x2), (3, .inl x3), (4, .inl x4), (5, .inl x5)] (mq_psh w []) M) := id rfl
/-! PartitionKernelModel.stored(IIII)I -/
theorem T114 (F d : Nat) (x1 x2 x3 x4 : Int32) (c : Nat → Nat) (σ : mSg) (τ : mLg) :
    pX F (d + 1) 114 [.inr (some (7, 0)), .inl x1, .inl x2, .inl x3, .inl x4] (c, σ, pr, τ) = pL F d 114 F 0 [(0, .inr (some (7, 0))), (1, .inl x1), (2, .inl x2), (3, .inl x3), (4, .inl x4)] [] (c, σ, pr, τ) := id rfl
theorem T114_0 (F d f : Nat) (x1 x2 x3 x4 : Int32) (c : Nat → Nat) (σ : mSg) (τ : mLg) :
    pL F d 114 (f + 3) 0 [(0, .inr (some (7, 0))), (1, .inl x1), (2, .inl x2), (3, .inl x3), (4, .inl x4)] [] (c, σ, pr, τ) = (if 2 < x2 then pL F d 114 f 5 [(0, .inr (some (7, 0))), (1, .inl x1), (2, .inl x2), (3, .inl x3), (4, .inl x4)] [] (c, σ, pr, τ) else pL F d 114 f 7 [(0, .inr (some (7, 0))), (1, .inl x1), (2, .inl x2), (3, .inl x3), (4, .inl x4)] [] (c, σ, pr, τ)) := id rfl
theorem T114_5 (F d f : Nat) (x1 x2 x3 x4 : Int32) (c : Nat → Nat) (σ : mSg) (τ : mLg) :
    pL F d 114 (f + 2) 5 [(0, .inr (some (7, 0))), (1, .inl x1), (2, .inl x2), (3, .inl x3), (4, .inl x4)] [] (c, σ, pr, τ) = some (.inl (some (.inl 0)), (c, σ, pr, τ)) := id rfl
theorem T114_7 (F d f : Nat) (x1 x2 x3 x4 : Int32) (c : Nat → Nat) (σ : mSg) (τ : mLg) :
    pL F d 114 (f + 5) 7 [(0, .inr (some (7, 0))), (1, .inl x1), (2, .inl x2), (3, .inl x3), (4, .inl x4)] [] (c, σ, pr, τ) = mq_ks (pX F d 107 [.inl x3, .inl (1 <<< (x2 &&& 31))] (c, σ, pr, τ)) (fun w M => pL F d 114 f 14 [(0, .inr (some (7, 0))), (1, .inl x1), (2, .inl x2), (3, .inl x3), (4, .inl x4)] (mq_psh w []) M) := id rfl
theorem T114_14 (F d f : Nat) (x1 x2 x3 x4 x_0 : Int32) (c : Nat → Nat) (σ : mSg) (τ : mLg) :
    pL F d 114 (f + 1) 14 [(0, .inr (some (7, 0))), (1, .inl x1), (2, .inl x2), (3, .inl x3), (4, .inl x4)] [.inl x_0] (c, σ, pr, τ) = (if x_0 = 0 then pL F d 114 f 17 [(0, .inr (some (7, 0))), (1, .inl x1), (2, .inl x2), (3, .inl x3), (4, .inl x4)] [] (c, σ, pr, τ) else pL F d 114 f 19 [(0, .inr (some (7, 0))), (1, .inl x1), (2, .inl x2), (3, .inl x3), (4, .inl x4)] [] (c, σ, pr, τ)) := id rfl
theorem T114_17 (F d f : Nat) (x1 x2 x3 x4 : Int32) (c : Nat → Nat) (σ : mSg) (τ : mLg) :
    pL F d 114 (f + 2) 17 [(0, .inr (some (7, 0))), (1, .inl x1), (2, .inl x2), (3, .inl x3), (4, .inl x4)] [] (c, σ, pr, τ) = some (.inl (some (.inl 1)), (c, σ, pr, τ)) := id rfl
theorem T114_19 (F d f : Nat) (x1 x2 x3 x4 : Int32) (c : Nat → Nat) (σ : mSg) (τ : mLg) :
    pL F d 114 (f + 8) 19 [(0, .inr (some (7, 0))), (1, .inl x1), (2, .inl x2), (3, .inl x3), (4, .inl x4)] [] (c, σ, pr, τ) = mq_kv (pX F d 109 [.inr (some (7, 0)), .inl x1, .inl x3, .inl (1 <<< (x2 &&& 31)), .inl x4] (c, σ, pr, τ)) (fun w M => pL F d 114 f 30 [(0, .inr (some (7, 0))), (1, .inl x1), (2, .inl x2), (3, .inl x3), (4, .inl x4)] (mq_psh w []) M) := id rfl
theorem T114_30 (F d f : Nat) (x1 x2 x3 x4 : Int32) (c : Nat → Nat) (σ : mSg) (τ : mLg) :
    pL F d 114 (f + 2) 30 [(0, .inr (some (7, 0))), (1, .inl x1), (2, .inl x2), (3, .inl x3), (4, .inl x4)] [] (c, σ, pr, τ) = some (.inl (some (.inl (-1))), (c, σ, pr, τ)) := id rfl
/-! PartitionKernelModel.holds(III)Z -/
theorem T115 (F d : Nat) (x0 x1 x2 : Int32) (c : Nat → Nat) (σ : mSg) (τ : mLg) :
    pX F (d + 1) 115 [.inl x0, .inl x1, .inl x2] (c, σ, pr, τ) = pL F d 115 F 0 [(0, .inl x0), (1, .inl x1), (2, .inl x2)] [] (c, σ, pr, τ) := id rfl
theorem T115_0 (F d f : Nat) (x0 x1 x2 : Int32) (c : Nat → Nat) (σ : mSg) (τ : mLg) :
    pL F d 115 (f + 2) 0 [(0, .inl x0), (1, .inl x1), (2, .inl x2)] [] (c, σ, pr, τ) = pL F d 115 f (mq_swt x0 94 [(0, 44), (1, 55), (2, 94), (3, 94), (4, 66), (5, 77), (6, 88)]) [(0, .inl x0), (1, .inl x1), (2, .inl x2)] [] (c, σ, pr, τ) := id rfl
theorem T115_44 (F d f : Nat) (x0 x1 x2 : Int32) (c : Nat → Nat) (σ : mSg) (τ : mLg) :
    pL F d 115 (f + 3) 44 [(0, .inl x0), (1, .inl x1), (2, .inl x2)] [] (c, σ, pr, τ) = (if x1 = x2 then pL F d 115 f 49 [(0, .inl x0), (1, .inl x1), (2, .inl x2)] [] (c, σ, pr, τ) else pL F d 115 f 53 [(0, .inl x0), (1, .inl x1), (2, .inl x2)] [] (c, σ, pr, τ)) := id rfl
theorem T115_55 (F d f : Nat) (x0 x1 x2 : Int32) (c : Nat → Nat) (σ : mSg) (τ : mLg) :
    pL F d 115 (f + 3) 55 [(0, .inl x0), (1, .inl x1), (2, .inl x2)] [] (c, σ, pr, τ) = (if x1 = x2 then pL F d 115 f 64 [(0, .inl x0), (1, .inl x1), (2, .inl x2)] [] (c, σ, pr, τ) else pL F d 115 f 60 [(0, .inl x0), (1, .inl x1), (2, .inl x2)] [] (c, σ, pr, τ)) := id rfl
theorem T115_66 (F d f : Nat) (x0 x1 x2 : Int32) (c : Nat → Nat) (σ : mSg) (τ : mLg) :
    pL F d 115 (f + 3) 66 [(0, .inl x0), (1, .inl x1), (2, .inl x2)] [] (c, σ, pr, τ) = (if x1 < x2 then pL F d 115 f 71 [(0, .inl x0), (1, .inl x1), (2, .inl x2)] [] (c, σ, pr, τ) else pL F d 115 f 75 [(0, .inl x0), (1, .inl x1), (2, .inl x2)] [] (c, σ, pr, τ)) := id rfl
theorem T115_77 (F d f : Nat) (x0 x1 x2 : Int32) (c : Nat → Nat) (σ : mSg) (τ : mLg) :
    pL F d 115 (f + 3) 77 [(0, .inl x0), (1, .inl x1), (2, .inl x2)] [] (c, σ, pr, τ) = (if x1 < x2 then pL F d 115 f 86 [(0, .inl x0), (1, .inl x1), (2, .inl x2)] [] (c, σ, pr, τ) else pL F d 115 f 82 [(0, .inl x0), (1, .inl x1), (2, .inl x2)] [] (c, σ, pr, τ)) := id rfl
theorem T115_88 (F d f : Nat) (x0 x1 x2 : Int32) (c : Nat → Nat) (σ : mSg) (τ : mLg) :
    pL F d 115 (f + 3) 88 [(0, .inl x0), (1, .inl x1), (2, .inl x2)] [] (c, σ, pr, τ) = mq_ks (pX F d 111 [.inl x1, .inl x2] (c, σ, pr, τ)) (fun w M => pL F d 115 f 93 [(0, .inl x0), (1, .inl x1), (2, .inl x2)] (mq_psh w []) M) := id rfl
theorem T115_94 (F d f : Nat) (x0 x1 x2 : Int32) (c : Nat → Nat) (σ : mSg) (τ : mLg) :
    pL F d 115 (f + 3) 94 [(0, .inl x0), (1, .inl x1), (2, .inl x2)] [] (c, σ, pr, τ) = mq_ks (pX F d 111 [.inl x1, .inl x2] (c, σ, pr, τ)) (fun w M => pL F d 115 f 99 [(0, .inl x0), (1, .inl x1), (2, .inl x2)] (mq_psh w []) M) := id rfl
theorem T115_49 (F d f : Nat) (x0 x1 x2 : Int32) (c : Nat → Nat) (σ : mSg) (τ : mLg) :
    pL F d 115 (f + 3) 49 [(0, .inl x0), (1, .inl x1), (2, .inl x2)] [] (c, σ, pr, τ) = some (.inl (some (.inl 1)), (c, σ, pr, τ)) := id rfl
theorem T115_53 (F d f : Nat) (x0 x1 x2 : Int32) (c : Nat → Nat) (σ : mSg) (τ : mLg) :
    pL F d 115 (f + 2) 53 [(0, .inl x0), (1, .inl x1), (2, .inl x2)] [] (c, σ, pr, τ) = some (.inl (some (.inl 0)), (c, σ, pr, τ)) := id rfl
theorem T115_64 (F d f : Nat) (x0 x1 x2 : Int32) (c : Nat → Nat) (σ : mSg) (τ : mLg) :
    pL F d 115 (f + 2) 64 [(0, .inl x0), (1, .inl x1), (2, .inl x2)] [] (c, σ, pr, τ) = some (.inl (some (.inl 0)), (c, σ, pr, τ)) := id rfl
theorem T115_60 (F d f : Nat) (x0 x1 x2 : Int32) (c : Nat → Nat) (σ : mSg) (τ : mLg) :
    pL F d 115 (f + 3) 60 [(0, .inl x0), (1, .inl x1), (2, .inl x2)] [] (c, σ, pr, τ) = some (.inl (some (.inl 1)), (c, σ, pr, τ)) := id rfl
theorem T115_71 (F d f : Nat) (x0 x1 x2 : Int32) (c : Nat → Nat) (σ : mSg) (τ : mLg) :
    pL F d 115 (f + 3) 71 [(0, .inl x0), (1, .inl x1), (2, .inl x2)] [] (c, σ, pr, τ) = some (.inl (some (.inl 1)), (c, σ, pr, τ)) := id rfl
theorem T115_75 (F d f : Nat) (x0 x1 x2 : Int32) (c : Nat → Nat) (σ : mSg) (τ : mLg) :
    pL F d 115 (f + 2) 75 [(0, .inl x0), (1, .inl x1), (2, .inl x2)] [] (c, σ, pr, τ) = some (.inl (some (.inl 0)), (c, σ, pr, τ)) := id rfl
theorem T115_86 (F d f : Nat) (x0 x1 x2 : Int32) (c : Nat → Nat) (σ : mSg) (τ : mLg) :
    pL F d 115 (f + 2) 86 [(0, .inl x0), (1, .inl x1), (2, .inl x2)] [] (c, σ, pr, τ) = some (.inl (some (.inl 0)), (c, σ, pr, τ)) := id rfl
theorem T115_82 (F d f : Nat) (x0 x1 x2 : Int32) (c : Nat → Nat) (σ : mSg) (τ : mLg) :
    pL F d 115 (f + 3) 82 [(0, .inl x0), (1, .inl x1), (2, .inl x2)] [] (c, σ, pr, τ) = some (.inl (some (.inl 1)), (c, σ, pr, τ)) := id rfl
theorem T115_93 (F d f : Nat) (x0 x1 x2 x_0 : Int32) (c : Nat → Nat) (σ : mSg) (τ : mLg) :
    pL F d 115 (f + 1) 93 [(0, .inl x0), (1, .inl x1), (2, .inl x2)] [.inl x_0] (c, σ, pr, τ) = (if x_0 = 0 ∨ x_0 = 1 then some (.inl (some (.inl x_0)), (c, σ, pr, τ)) else none) := id rfl
theorem T115_99 (F d f : Nat) (x0 x1 x2 x_0 : Int32) (c : Nat → Nat) (σ : mSg) (τ : mLg) :
    pL F d 115 (f + 1) 99 [(0, .inl x0), (1, .inl x1), (2, .inl x2)] [.inl x_0] (c, σ, pr, τ) = (if x_0 = 0 then pL F d 115 f 102 [(0, .inl x0), (1, .inl x1), (2, .inl x2)] [] (c, σ, pr, τ) else pL F d 115 f 106 [(0, .inl x0), (1, .inl x1), (2, .inl x2)] [] (c, σ, pr, τ)) := id rfl
theorem T115_102 (F d f : Nat) (x0 x1 x2 : Int32) (c : Nat → Nat) (σ : mSg) (τ : mLg) :
    pL F d 115 (f + 3) 102 [(0, .inl x0), (1, .inl x1), (2, .inl x2)] [] (c, σ, pr, τ) = some (.inl (some (.inl 1)), (c, σ, pr, τ)) := id rfl
theorem T115_106 (F d f : Nat) (x0 x1 x2 : Int32) (c : Nat → Nat) (σ : mSg) (τ : mLg) :
    pL F d 115 (f + 2) 106 [(0, .inl x0), (1, .inl x1), (2, .inl x2)] [] (c, σ, pr, τ) = some (.inl (some (.inl 0)), (c, σ, pr, τ)) := id rfl
/-! PartitionKernelModel.made(IIIZ)I -/
theorem T116 (F d : Nat) (x0 x1 x2 x3 : Int32) (c : Nat → Nat) (σ : mSg) (τ : mLg) :
    pX F (d + 1) 116 [.inl x0, .inl x1, .inl x2, .inl x3] (c, σ, pr, τ) = pL F d 116 F 0 [(0, .inl x0), (1, .inl x1), (2, .inl x2), (3, .inl x3)] [] (c, σ, pr, τ) := id rfl
theorem T116_0 (F d f : Nat) (x0 x1 x2 x3 : Int32) (c : Nat → Nat) (σ : mSg) (τ : mLg) :
    pL F d 116 (f + 2) 0 [(0, .inl x0), (1, .inl x1), (2, .inl x2), (3, .inl x3)] [] (c, σ, pr, τ) = pL F d 116 f (mq_swt x0 118 [(0, 44), (1, 58), (2, 65), (3, 76), (4, 90), (5, 94), (6, 114)]) [(0, .inl x0), (1, .inl x1), (2, .inl x2), (3, .inl x3)] [] (c, σ, pr, τ) := id rfl
theorem T116_44 (F d f : Nat) (x0 x1 x2 x3 : Int32) (c : Nat → Nat) (σ : mSg) (τ : mLg) :
    pL F d 116 (f + 2) 44 [(0, .inl x0), (1, .inl x1), (2, .inl x2), (3, .inl x3)] [] (c, σ, pr, τ) = (if x3 = 0 then pL F d 116 f 54 [(0, .inl x0), (1, .inl x1), (2, .inl x2), (3, .inl x3)] [] (c, σ, pr, τ) else pL F d 116 f 48 [(0, .inl x0), (1, .inl x1), (2, .inl x2), (3, .inl x3)] [] (c, σ, pr, τ)) := id rfl
theorem T116_58 (F d f : Nat) (x0 x1 x2 x3 : Int32) (c : Nat → Nat) (σ : mSg) (τ : mLg) :
    pL F d 116 (f + 6) 58 [(0, .inl x0), (1, .inl x1), (2, .inl x2), (3, .inl x3)] [] (c, σ, pr, τ) = some (.inl (some (.inl (x1 <<< ((x2 &&& 31) &&& 31)))), (c, σ, pr, τ)) := id rfl
theorem T116_65 (F d f : Nat) (x0 x1 x2 x3 : Int32) (c : Nat → Nat) (σ : mSg) (τ : mLg) :
    pL F d 116 (f + 3) 65 [(0, .inl x0), (1, .inl x1), (2, .inl x2), (3, .inl x3)] [] (c, σ, pr, τ) = (if x1 < x2 then pL F d 116 f 70 [(0, .inl x0), (1, .inl x1), (2, .inl x2), (3, .inl x3)] [] (c, σ, pr, τ) else pL F d 116 f 74 [(0, .inl x0), (1, .inl x1), (2, .inl x2), (3, .inl x3)] [] (c, σ, pr, τ)) := id rfl
theorem T116_76 (F d f : Nat) (x0 x1 x2 x3 : Int32) (c : Nat → Nat) (σ : mSg) (τ : mLg) :
    pL F d 116 (f + 3) 76 [(0, .inl x0), (1, .inl x1), (2, .inl x2), (3, .inl x3)] [] (c, σ, pr, τ) = mq_ks (pX F d 111 [.inl x1, .inl x2] (c, σ, pr, τ)) (fun w M => pL F d 116 f 81 [(0, .inl x0), (1, .inl x1), (2, .inl x2), (3, .inl x3)] (mq_psh w []) M) := id rfl
theorem T116_90 (F d f : Nat) (x0 x1 x2 x3 : Int32) (c : Nat → Nat) (σ : mSg) (τ : mLg) :
    pL F d 116 (f + 4) 90 [(0, .inl x0), (1, .inl x1), (2, .inl x2), (3, .inl x3)] [] (c, σ, pr, τ) = some (.inl (some (.inl (x1 ^^^ x2))), (c, σ, pr, τ)) := id rfl
theorem T116_94 (F d f : Nat) (x0 x1 x2 x3 : Int32) (c : Nat → Nat) (σ : mSg) (τ : mLg) :
    pL F d 116 (f + 2) 94 [(0, .inl x0), (1, .inl x1), (2, .inl x2), (3, .inl x3)] [] (c, σ, pr, τ) = (if x3 = 0 then pL F d 116 f 107 [(0, .inl x0), (1, .inl x1), (2, .inl x2), (3, .inl x3)] [] (c, σ, pr, τ) else pL F d 116 f 98 [(0, .inl x0), (1, .inl x1), (2, .inl x2), (3, .inl x3)] [] (c, σ, pr, τ)) := id rfl
theorem T116_114 (F d f : Nat) (x0 x1 x2 x3 : Int32) (c : Nat → Nat) (σ : mSg) (τ : mLg) :
    pL F d 116 (f + 4) 114 [(0, .inl x0), (1, .inl x1), (2, .inl x2), (3, .inl x3)] [] (c, σ, pr, τ) = some (.inl (some (.inl (x1 ||| x2))), (c, σ, pr, τ)) := id rfl
theorem T116_118 (F d f : Nat) (x0 x1 x2 x3 : Int32) (c : Nat → Nat) (σ : mSg) (τ : mLg) :
    pL F d 116 (f + 4) 118 [(0, .inl x0), (1, .inl x1), (2, .inl x2), (3, .inl x3)] [] (c, σ, pr, τ) = some (.inl (some (.inl (x1 &&& x2))), (c, σ, pr, τ)) := id rfl
theorem T116_54 (F d f : Nat) (x0 x1 x2 x3 : Int32) (c : Nat → Nat) (σ : mSg) (τ : mLg) :
    pL F d 116 (f + 4) 54 [(0, .inl x0), (1, .inl x1), (2, .inl x2), (3, .inl x3)] [] (c, σ, pr, τ) = some (.inl (some (.inl (x1 + x2))), (c, σ, pr, τ)) := id rfl
theorem T116_48 (F d f : Nat) (x0 x1 x2 x3 : Int32) (c : Nat → Nat) (σ : mSg) (τ : mLg) :
    pL F d 116 (f + 5) 48 [(0, .inl x0), (1, .inl x1), (2, .inl x2), (3, .inl x3)] [] (c, σ, pr, τ) = some (.inl (some (.inl (x1 - x2))), (c, σ, pr, τ)) := id rfl
theorem T116_70 (F d f : Nat) (x0 x1 x2 x3 : Int32) (c : Nat → Nat) (σ : mSg) (τ : mLg) :
    pL F d 116 (f + 3) 70 [(0, .inl x0), (1, .inl x1), (2, .inl x2), (3, .inl x3)] [] (c, σ, pr, τ) = some (.inl (some (.inl 1)), (c, σ, pr, τ)) := id rfl
theorem T116_74 (F d f : Nat) (x0 x1 x2 x3 : Int32) (c : Nat → Nat) (σ : mSg) (τ : mLg) :
    pL F d 116 (f + 2) 74 [(0, .inl x0), (1, .inl x1), (2, .inl x2), (3, .inl x3)] [] (c, σ, pr, τ) = some (.inl (some (.inl 0)), (c, σ, pr, τ)) := id rfl
theorem T116_81 (F d f : Nat) (x0 x1 x2 x3 x_0 : Int32) (c : Nat → Nat) (σ : mSg) (τ : mLg) :
    pL F d 116 (f + 1) 81 [(0, .inl x0), (1, .inl x1), (2, .inl x2), (3, .inl x3)] [.inl x_0] (c, σ, pr, τ) = (if x_0 = 0 then pL F d 116 f 88 [(0, .inl x0), (1, .inl x1), (2, .inl x2), (3, .inl x3)] [] (c, σ, pr, τ) else pL F d 116 f 84 [(0, .inl x0), (1, .inl x1), (2, .inl x2), (3, .inl x3)] [] (c, σ, pr, τ)) := id rfl
theorem T116_107 (F d f : Nat) (x0 x1 x2 x3 : Int32) (c : Nat → Nat) (σ : mSg) (τ : mLg) :
    pL F d 116 (f + 6) 107 [(0, .inl x0), (1, .inl x1), (2, .inl x2), (3, .inl x3)] [] (c, σ, pr, τ) = some (.inl (some (.inl ((Int32.toUInt32 x1 >>> (Int32.toUInt32 (x2 &&& 31) &&& Int32.toUInt32 31)).toInt32))), (c, σ, pr, τ)) := id rfl
theorem T116_98 (F d f : Nat) (x0 x1 x2 x3 : Int32) (c : Nat → Nat) (σ : mSg) (τ : mLg) :
    pL F d 116 (f + 7) 98 [(0, .inl x0), (1, .inl x1), (2, .inl x2), (3, .inl x3)] [] (c, σ, pr, τ) = some (.inl (some (.inl (x1 >>> ((x2 &&& 31) &&& 31)))), (c, σ, pr, τ)) := id rfl
theorem T116_88 (F d f : Nat) (x0 x1 x2 x3 : Int32) (c : Nat → Nat) (σ : mSg) (τ : mLg) :
    pL F d 116 (f + 2) 88 [(0, .inl x0), (1, .inl x1), (2, .inl x2), (3, .inl x3)] [] (c, σ, pr, τ) = some (.inl (some (.inl 0)), (c, σ, pr, τ)) := id rfl
theorem T116_84 (F d f : Nat) (x0 x1 x2 x3 : Int32) (c : Nat → Nat) (σ : mSg) (τ : mLg) :
    pL F d 116 (f + 3) 84 [(0, .inl x0), (1, .inl x1), (2, .inl x2), (3, .inl x3)] [] (c, σ, pr, τ) = some (.inl (some (.inl 1)), (c, σ, pr, τ)) := id rfl
/-! PartitionKernelModel.jump(III)I -/
theorem T117 (F d : Nat) (x1 x2 x3 : Int32) (c : Nat → Nat) (σ : mSg) (τ : mLg) :
    pX F (d + 1) 117 [.inr (some (7, 0)), .inl x1, .inl x2, .inl x3] (c, σ, pr, τ) = pL F d 117 F 0 [(0, .inr (some (7, 0))), (1, .inl x1), (2, .inl x2), (3, .inl x3)] [] (c, σ, pr, τ) := id rfl
theorem T117_0 (F d f : Nat) (x1 x2 x3 : Int32) (c : Nat → Nat) (σ : mSg) (τ : mLg) :
    pL F d 117 (f + 12) 0 [(0, .inr (some (7, 0))), (1, .inl x1), (2, .inl x2), (3, .inl x3)] [] (c, σ, pr, τ) = (if x1 < 0 ∨ 32 ≤ Int32.toNatClampNeg x1 then none else (if (x2 &&& 127) = 111 then pL F d 117 f 21 [(0, .inr (some (7, 0))), (1, .inl x1), (2, .inl x2), (3, .inl x3), (4, .inl (x2 &&& 127)), (5, .inl (σ 13 36 (Int32.toNatClampNeg x1)))] [] (c, σ, pr, τ) else pL F d 117 f 78 [(0, .inr (some (7, 0))), (1, .inl x1), (2, .inl x2), (3, .inl x3), (4, .inl (x2 &&& 127)), (5, .inl (σ 13 36 (Int32.toNatClampNeg x1)))] [] (c, σ, pr, τ))) := id rfl
theorem T117_21 (F d f : Nat) (x1 x2 x3 x4 x5 : Int32) (c : Nat → Nat) (σ : mSg) (τ : mLg) :
    pL F d 117 (f + 11) 21 [(0, .inr (some (7, 0))), (1, .inl x1), (2, .inl x2), (3, .inl x3), (4, .inl x4), (5, .inl x5)] [] (c, σ, pr, τ) = mq_ks (pX F d 110 [.inl x2, .inl 12, .inl 8] (c, σ, pr, τ)) (fun w M => pL F d 117 f 39 [(0, .inr (some (7, 0))), (1, .inl x1), (2, .inl x2), (3, .inl x3), (4, .inl x4), (5, .inl x5)] (mq_psh w [.inl ((x2 >>> (31 &&& 31)) <<< (20 &&& 31)), .inl x5, .inr (.inl (some (7, 0)))]) M) := id rfl
theorem T117_78 (F d f : Nat) (x1 x2 x3 x4 x5 : Int32) (c : Nat → Nat) (σ : mSg) (τ : mLg) :
    pL F d 117 (f + 3) 78 [(0, .inr (some (7, 0))), (1, .inl x1), (2, .inl x2), (3, .inl x3), (4, .inl x4), (5, .inl x5)] [] (c, σ, pr, τ) = (if x4 = 103 then pL F d 117 f 85 [(0, .inr (some (7, 0))), (1, .inl x1), (2, .inl x2), (3, .inl x3), (4, .inl x4), (5, .inl x5)] [] (c, σ, pr, τ) else pL F d 117 f 119 [(0, .inr (some (7, 0))), (1, .inl x1), (2, .inl x2), (3, .inl x3), (4, .inl x4), (5, .inl x5)] [] (c, σ, pr, τ)) := id rfl
theorem T117_39 (F d f : Nat) (x1 x2 x3 x4 x5 x_0 x_1 x_2 : Int32) (c : Nat → Nat) (σ : mSg) (τ : mLg) :
    pL F d 117 (f + 7) 39 [(0, .inr (some (7, 0))), (1, .inl x1), (2, .inl x2), (3, .inl x3), (4, .inl x4), (5, .inl x5)] [.inl x_0, .inl x_1, .inl x_2, .inr (.inl (some (7, 0)))] (c, σ, pr, τ) = mq_ks (pX F d 110 [.inl x2, .inl 20, .inl 1] (c, σ, pr, τ)) (fun w M => pL F d 117 f 50 [(0, .inr (some (7, 0))), (1, .inl x1), (2, .inl x2), (3, .inl x3), (4, .inl x4), (5, .inl x5)] (mq_psh w [.inl (x_1 ||| (x_0 <<< (12 &&& 31))), .inl x_2, .inr (.inl (some (7, 0)))]) M) := id rfl
theorem T117_85 (F d f : Nat) (x1 x2 x3 x4 x5 : Int32) (c : Nat → Nat) (σ : mSg) (τ : mLg) :
    pL F d 117 (f + 4) 85 [(0, .inr (some (7, 0))), (1, .inl x1), (2, .inl x2), (3, .inl x3), (4, .inl x4), (5, .inl x5)] [] (c, σ, pr, τ) = mq_ks (pX F d 110 [.inl x2, .inl 12, .inl 3] (c, σ, pr, τ)) (fun w M => pL F d 117 f 92 [(0, .inr (some (7, 0))), (1, .inl x1), (2, .inl x2), (3, .inl x3), (4, .inl x4), (5, .inl x5)] (mq_psh w []) M) := id rfl
theorem T117_119 (F d f : Nat) (x1 x2 x3 x4 x5 : Int32) (c : Nat → Nat) (σ : mSg) (τ : mLg) :
    pL F d 117 (f + 4) 119 [(0, .inr (some (7, 0))), (1, .inl x1), (2, .inl x2), (3, .inl x3), (4, .inl x4), (5, .inl x5)] [] (c, σ, pr, τ) = mq_ks (pX F d 110 [.inl x2, .inl 12, .inl 3] (c, σ, pr, τ)) (fun w M => pL F d 117 f 126 [(0, .inr (some (7, 0))), (1, .inl x1), (2, .inl x2), (3, .inl x3), (4, .inl x4), (5, .inl x5)] (mq_psh w []) M) := id rfl
theorem T117_50 (F d f : Nat) (x1 x2 x3 x4 x5 x_0 x_1 x_2 : Int32) (c : Nat → Nat) (σ : mSg) (τ : mLg) :
    pL F d 117 (f + 7) 50 [(0, .inr (some (7, 0))), (1, .inl x1), (2, .inl x2), (3, .inl x3), (4, .inl x4), (5, .inl x5)] [.inl x_0, .inl x_1, .inl x_2, .inr (.inl (some (7, 0)))] (c, σ, pr, τ) = mq_ks (pX F d 110 [.inl x2, .inl 21, .inl 10] (c, σ, pr, τ)) (fun w M => pL F d 117 f 62 [(0, .inr (some (7, 0))), (1, .inl x1), (2, .inl x2), (3, .inl x3), (4, .inl x4), (5, .inl x5)] (mq_psh w [.inl (x_1 ||| (x_0 <<< (11 &&& 31))), .inl x_2, .inr (.inl (some (7, 0)))]) M) := id rfl
theorem T117_92 (F d f : Nat) (x1 x2 x3 x4 x5 x_0 : Int32) (c : Nat → Nat) (σ : mSg) (τ : mLg) :
    pL F d 117 (f + 1) 92 [(0, .inr (some (7, 0))), (1, .inl x1), (2, .inl x2), (3, .inl x3), (4, .inl x4), (5, .inl x5)] [.inl x_0] (c, σ, pr, τ) = (if x_0 = 0 then pL F d 117 f 97 [(0, .inr (some (7, 0))), (1, .inl x1), (2, .inl x2), (3, .inl x3), (4, .inl x4), (5, .inl x5)] [] (c, σ, pr, τ) else pL F d 117 f 95 [(0, .inr (some (7, 0))), (1, .inl x1), (2, .inl x2), (3, .inl x3), (4, .inl x4), (5, .inl x5)] [] (c, σ, pr, τ)) := id rfl
theorem T117_126 (F d f : Nat) (x1 x2 x3 x4 x5 x_0 : Int32) (c : Nat → Nat) (σ : mSg) (τ : mLg) :
    pL F d 117 (f + 4) 126 [(0, .inr (some (7, 0))), (1, .inl x1), (2, .inl x2), (3, .inl x3), (4, .inl x4), (5, .inl x5)] [.inl x_0] (c, σ, pr, τ) = (if x_0 = 2 then pL F d 117 f 140 [(0, .inr (some (7, 0))), (1, .inl x1), (2, .inl x2), (3, .inl x3), (4, .inl x4), (5, .inl x5), (6, .inl x_0)] [] (c, σ, pr, τ) else pL F d 117 f 134 [(0, .inr (some (7, 0))), (1, .inl x1), (2, .inl x2), (3, .inl x3), (4, .inl x4), (5, .inl x5), (6, .inl x_0)] [] (c, σ, pr, τ)) := id rfl
theorem T117_62 (F d f : Nat) (x1 x2 x3 x4 x5 x_0 x_1 x_2 : Int32) (c : Nat → Nat) (σ : mSg) (τ : mLg) :
    pL F d 117 (f + 10) 62 [(0, .inr (some (7, 0))), (1, .inl x1), (2, .inl x2), (3, .inl x3), (4, .inl x4), (5, .inl x5)] [.inl x_0, .inl x_1, .inl x_2, .inr (.inl (some (7, 0)))] (c, σ, pr, τ) = mq_kv (pX F d 112 [.inr (some (7, 0)), .inl (x5 + 4)] (c, (mq_up σ 7 0 41 (x_2 + (x_1 ||| (x_0 <<< (1 &&& 31))))), pr, τ)) (fun w M => pL F d 117 f 77 [(0, .inr (some (7, 0))), (1, .inl x1), (2, .inl x2), (3, .inl x3), (4, .inl x4), (5, .inl x5)] (mq_psh w []) M) := id rfl
theorem T117_97 (F d f : Nat) (x1 x2 x3 x4 x5 : Int32) (c : Nat → Nat) (σ : mSg) (τ : mLg) :
    pL F d 117 (f + 14) 97 [(0, .inr (some (7, 0))), (1, .inl x1), (2, .inl x2), (3, .inl x3), (4, .inl x4), (5, .inl x5)] [] (c, σ, pr, τ) = mq_kv (pX F d 112 [.inr (some (7, 0)), .inl (x5 + 4)] (c, (mq_up σ 7 0 41 ((x3 + (x2 >>> (20 &&& 31))) &&& (-2))), pr, τ)) (fun w M => pL F d 117 f 118 [(0, .inr (some (7, 0))), (1, .inl x1), (2, .inl x2), (3, .inl x3), (4, .inl x4), (5, .inl x5)] (mq_psh w []) M) := id rfl
theorem T117_95 (F d f : Nat) (x1 x2 x3 x4 x5 : Int32) (c : Nat → Nat) (σ : mSg) (τ : mLg) :
    pL F d 117 (f + 2) 95 [(0, .inr (some (7, 0))), (1, .inl x1), (2, .inl x2), (3, .inl x3), (4, .inl x4), (5, .inl x5)] [] (c, σ, pr, τ) = some (.inl (some (.inl 0)), (c, σ, pr, τ)) := id rfl
theorem T117_140 (F d f : Nat) (x1 x2 x3 x4 x5 x6 : Int32) (c : Nat → Nat) (σ : mSg) (τ : mLg) :
    pL F d 117 (f + 2) 140 [(0, .inr (some (7, 0))), (1, .inl x1), (2, .inl x2), (3, .inl x3), (4, .inl x4), (5, .inl x5), (6, .inl x6)] [] (c, σ, pr, τ) = some (.inl (some (.inl 0)), (c, σ, pr, τ)) := id rfl
theorem T117_134 (F d f : Nat) (x1 x2 x3 x4 x5 x6 : Int32) (c : Nat → Nat) (σ : mSg) (τ : mLg) :
    pL F d 117 (f + 3) 134 [(0, .inr (some (7, 0))), (1, .inl x1), (2, .inl x2), (3, .inl x3), (4, .inl x4), (5, .inl x5), (6, .inl x6)] [] (c, σ, pr, τ) = (if x6 = 3 then pL F d 117 f 140 [(0, .inr (some (7, 0))), (1, .inl x1), (2, .inl x2), (3, .inl x3), (4, .inl x4), (5, .inl x5), (6, .inl x6)] [] (c, σ, pr, τ) else pL F d 117 f 142 [(0, .inr (some (7, 0))), (1, .inl x1), (2, .inl x2), (3, .inl x3), (4, .inl x4), (5, .inl x5), (6, .inl x6)] [] (c, σ, pr, τ)) := id rfl
theorem T117_77 (F d f : Nat) (x1 x2 x3 x4 x5 x_0 : Int32) (c : Nat → Nat) (σ : mSg) (τ : mLg) :
    pL F d 117 (f + 1) 77 [(0, .inr (some (7, 0))), (1, .inl x1), (2, .inl x2), (3, .inl x3), (4, .inl x4), (5, .inl x5)] [.inl x_0] (c, σ, pr, τ) = some (.inl (some (.inl x_0)), (c, σ, pr, τ)) := id rfl
theorem T117_118 (F d f : Nat) (x1 x2 x3 x4 x5 x_0 : Int32) (c : Nat → Nat) (σ : mSg) (τ : mLg) :
    pL F d 117 (f + 1) 118 [(0, .inr (some (7, 0))), (1, .inl x1), (2, .inl x2), (3, .inl x3), (4, .inl x4), (5, .inl x5)] [.inl x_0] (c, σ, pr, τ) = some (.inl (some (.inl x_0)), (c, σ, pr, τ)) := id rfl
theorem T117_142 (F d f : Nat) (x1 x2 x3 x4 x5 x6 : Int32) (c : Nat → Nat) (σ : mSg) (τ : mLg) :
    pL F d 117 (f + 11) 142 [(0, .inr (some (7, 0))), (1, .inl x1), (2, .inl x2), (3, .inl x3), (4, .inl x4), (5, .inl x5), (6, .inl x6)] [] (c, σ, pr, τ) = mq_ks (pX F d 110 [.inl x2, .inl 20, .inl 5] (c, σ, pr, τ)) (fun w M => pL F d 117 f 160 [(0, .inr (some (7, 0))), (1, .inl x1), (2, .inl x2), (3, .inl x3), (4, .inl x4), (5, .inl x5), (6, .inl x6)] (mq_psh w [.inl (32 * x1), .inr (.inl (some (16, 0))), .inl x3, .inl x6]) M) := id rfl
theorem T117_160 (F d f : Nat) (x1 x2 x3 x4 x5 x6 x_0 x_1 x_3 x_4 : Int32) (c : Nat → Nat) (σ : mSg) (τ : mLg) :
    pL F d 117 (f + 3) 160 [(0, .inr (some (7, 0))), (1, .inl x1), (2, .inl x2), (3, .inl x3), (4, .inl x4), (5, .inl x5), (6, .inl x6)] [.inl x_0, .inl x_1, .inr (.inl (some (16, 0))), .inl x_3, .inl x_4] (c, σ, pr, τ) = (if (x_1 + x_0) < 0 ∨ 1024 ≤ Int32.toNatClampNeg (x_1 + x_0) then none else mq_ks (pX F d 115 [.inl x_4, .inl x_3, .inl (σ 16 0 (Int32.toNatClampNeg (x_1 + x_0)))] (c, σ, pr, τ)) (fun w M => pL F d 117 f 165 [(0, .inr (some (7, 0))), (1, .inl x1), (2, .inl x2), (3, .inl x3), (4, .inl x4), (5, .inl x5), (6, .inl x6)] (mq_psh w []) M)) := id rfl
theorem T117_165 (F d f : Nat) (x1 x2 x3 x4 x5 x6 x_0 : Int32) (c : Nat → Nat) (σ : mSg) (τ : mLg) :
    pL F d 117 (f + 1) 165 [(0, .inr (some (7, 0))), (1, .inl x1), (2, .inl x2), (3, .inl x3), (4, .inl x4), (5, .inl x5), (6, .inl x6)] [.inl x_0] (c, σ, pr, τ) = (if x_0 = 0 then pL F d 117 f 214 [(0, .inr (some (7, 0))), (1, .inl x1), (2, .inl x2), (3, .inl x3), (4, .inl x4), (5, .inl x5), (6, .inl x6)] [] (c, σ, pr, τ) else pL F d 117 f 168 [(0, .inr (some (7, 0))), (1, .inl x1), (2, .inl x2), (3, .inl x3), (4, .inl x4), (5, .inl x5), (6, .inl x6)] [] (c, σ, pr, τ)) := id rfl
theorem T117_214 (F d f : Nat) (x1 x2 x3 x4 x5 x6 : Int32) (c : Nat → Nat) (σ : mSg) (τ : mLg) :
    pL F d 117 (f + 2) 214 [(0, .inr (some (7, 0))), (1, .inl x1), (2, .inl x2), (3, .inl x3), (4, .inl x4), (5, .inl x5), (6, .inl x6)] [] (c, σ, pr, τ) = some (.inl (some (.inl (-1))), (c, σ, pr, τ)) := id rfl
theorem T117_168 (F d f : Nat) (x1 x2 x3 x4 x5 x6 : Int32) (c : Nat → Nat) (σ : mSg) (τ : mLg) :
    pL F d 117 (f + 11) 168 [(0, .inr (some (7, 0))), (1, .inl x1), (2, .inl x2), (3, .inl x3), (4, .inl x4), (5, .inl x5), (6, .inl x6)] [] (c, σ, pr, τ) = mq_ks (pX F d 110 [.inl x2, .inl 7, .inl 1] (c, σ, pr, τ)) (fun w M => pL F d 117 f 185 [(0, .inr (some (7, 0))), (1, .inl x1), (2, .inl x2), (3, .inl x3), (4, .inl x4), (5, .inl x5), (6, .inl x6)] (mq_psh w [.inl ((x2 >>> (31 &&& 31)) <<< (12 &&& 31)), .inl x5, .inr (.inl (some (7, 0)))]) M) := id rfl
theorem T117_185 (F d f : Nat) (x1 x2 x3 x4 x5 x6 x_0 x_1 x_2 : Int32) (c : Nat → Nat) (σ : mSg) (τ : mLg) :
    pL F d 117 (f + 7) 185 [(0, .inr (some (7, 0))), (1, .inl x1), (2, .inl x2), (3, .inl x3), (4, .inl x4), (5, .inl x5), (6, .inl x6)] [.inl x_0, .inl x_1, .inl x_2, .inr (.inl (some (7, 0)))] (c, σ, pr, τ) = mq_ks (pX F d 110 [.inl x2, .inl 25, .inl 6] (c, σ, pr, τ)) (fun w M => pL F d 117 f 197 [(0, .inr (some (7, 0))), (1, .inl x1), (2, .inl x2), (3, .inl x3), (4, .inl x4), (5, .inl x5), (6, .inl x6)] (mq_psh w [.inl (x_1 ||| (x_0 <<< (11 &&& 31))), .inl x_2, .inr (.inl (some (7, 0)))]) M) := id rfl
theorem T117_197 (F d f : Nat) (x1 x2 x3 x4 x5 x6 x_0 x_1 x_2 : Int32) (c : Nat → Nat) (σ : mSg) (τ : mLg) :
    pL F d 117 (f + 7) 197 [(0, .inr (some (7, 0))), (1, .inl x1), (2, .inl x2), (3, .inl x3), (4, .inl x4), (5, .inl x5), (6, .inl x6)] [.inl x_0, .inl x_1, .inl x_2, .inr (.inl (some (7, 0)))] (c, σ, pr, τ) = mq_ks (pX F d 110 [.inl x2, .inl 8, .inl 4] (c, σ, pr, τ)) (fun w M => pL F d 117 f 207 [(0, .inr (some (7, 0))), (1, .inl x1), (2, .inl x2), (3, .inl x3), (4, .inl x4), (5, .inl x5), (6, .inl x6)] (mq_psh w [.inl (x_1 ||| (x_0 <<< (5 &&& 31))), .inl x_2, .inr (.inl (some (7, 0)))]) M) := id rfl
theorem T117_207 (F d f : Nat) (x1 x2 x3 x4 x5 x6 x_0 x_1 x_2 : Int32) (c : Nat → Nat) (σ : mSg) (τ : mLg) :
    pL F d 117 (f + 7) 207 [(0, .inr (some (7, 0))), (1, .inl x1), (2, .inl x2), (3, .inl x3), (4, .inl x4), (5, .inl x5), (6, .inl x6)] [.inl x_0, .inl x_1, .inl x_2, .inr (.inl (some (7, 0)))] (c, σ, pr, τ) = some (.inl (some (.inl (-1))), (c, (mq_up σ 7 0 41 (x_2 + (x_1 ||| (x_0 <<< (1 &&& 31))))), pr, τ)) := id rfl
/-! PartitionKernelModel.reckon(III)I -/
theorem T118 (F d : Nat) (x1 x2 x3 : Int32) (c : Nat → Nat) (σ : mSg) (τ : mLg) :
    pX F (d + 1) 118 [.inr (some (7, 0)), .inl x1, .inl x2, .inl x3] (c, σ, pr, τ) = pL F d 118 F 0 [(0, .inr (some (7, 0))), (1, .inl x1), (2, .inl x2), (3, .inl x3)] [] (c, σ, pr, τ) := id rfl
theorem T118_0 (F d f : Nat) (x1 x2 x3 : Int32) (c : Nat → Nat) (σ : mSg) (τ : mLg) :
    pL F d 118 (f + 4) 0 [(0, .inr (some (7, 0))), (1, .inl x1), (2, .inl x2), (3, .inl x3)] [] (c, σ, pr, τ) = mq_ks (pX F d 110 [.inl x1, .inl 12, .inl 3] (c, σ, pr, τ)) (fun w M => pL F d 118 f 7 [(0, .inr (some (7, 0))), (1, .inl x1), (2, .inl x2), (3, .inl x3)] (mq_psh w []) M) := id rfl
theorem T118_7 (F d f : Nat) (x1 x2 x3 x_0 : Int32) (c : Nat → Nat) (σ : mSg) (τ : mLg) :
    pL F d 118 (f + 5) 7 [(0, .inr (some (7, 0))), (1, .inl x1), (2, .inl x2), (3, .inl x3)] [.inl x_0] (c, σ, pr, τ) = mq_ks (pX F d 110 [.inl x1, .inl 25, .inl 7] (c, σ, pr, τ)) (fun w M => pL F d 118 f 17 [(0, .inr (some (7, 0))), (1, .inl x1), (2, .inl x2), (3, .inl x3), (4, .inl x_0)] (mq_psh w []) M) := id rfl
theorem T118_17 (F d f : Nat) (x1 x2 x3 x4 x_0 : Int32) (c : Nat → Nat) (σ : mSg) (τ : mLg) :
    pL F d 118 (f + 6) 17 [(0, .inr (some (7, 0))), (1, .inl x1), (2, .inl x2), (3, .inl x3), (4, .inl x4)] [.inl x_0] (c, σ, pr, τ) = (if (x1 &&& 127) = 51 then pL F d 118 f 28 [(0, .inr (some (7, 0))), (1, .inl x1), (2, .inl x2), (3, .inl x3), (4, .inl x4), (5, .inl x_0)] [] (c, σ, pr, τ) else pL F d 118 f 77 [(0, .inr (some (7, 0))), (1, .inl x1), (2, .inl x2), (3, .inl x3), (4, .inl x4), (5, .inl x_0)] [] (c, σ, pr, τ)) := id rfl
theorem T118_28 (F d f : Nat) (x1 x2 x3 x4 x5 : Int32) (c : Nat → Nat) (σ : mSg) (τ : mLg) :
    pL F d 118 (f + 2) 28 [(0, .inr (some (7, 0))), (1, .inl x1), (2, .inl x2), (3, .inl x3), (4, .inl x4), (5, .inl x5)] [] (c, σ, pr, τ) = (if x5 = 0 then pL F d 118 f 53 [(0, .inr (some (7, 0))), (1, .inl x1), (2, .inl x2), (3, .inl x3), (4, .inl x4), (5, .inl x5)] [] (c, σ, pr, τ) else pL F d 118 f 33 [(0, .inr (some (7, 0))), (1, .inl x1), (2, .inl x2), (3, .inl x3), (4, .inl x4), (5, .inl x5)] [] (c, σ, pr, τ)) := id rfl
theorem T118_77 (F d f : Nat) (x1 x2 x3 x4 x5 : Int32) (c : Nat → Nat) (σ : mSg) (τ : mLg) :
    pL F d 118 (f + 3) 77 [(0, .inr (some (7, 0))), (1, .inl x1), (2, .inl x2), (3, .inl x3), (4, .inl x4), (5, .inl x5)] [] (c, σ, pr, τ) = (if x4 = 1 then pL F d 118 f 83 [(0, .inr (some (7, 0))), (1, .inl x1), (2, .inl x2), (3, .inl x3), (4, .inl x4), (5, .inl x5)] [] (c, σ, pr, τ) else pL F d 118 f 88 [(0, .inr (some (7, 0))), (1, .inl x1), (2, .inl x2), (3, .inl x3), (4, .inl x4), (5, .inl x5)] [] (c, σ, pr, τ)) := id rfl
theorem T118_53 (F d f : Nat) (x1 x2 x3 x4 x5 : Int32) (c : Nat → Nat) (σ : mSg) (τ : mLg) :
    pL F d 118 (f + 7) 53 [(0, .inr (some (7, 0))), (1, .inl x1), (2, .inl x2), (3, .inl x3), (4, .inl x4), (5, .inl x5)] [] (c, σ, pr, τ) = (if x5 = 32 then pL F d 118 f 65 [(0, .inr (some (7, 0))), (1, .inl x1), (2, .inl x2), (3, .inl x3), (4, .inl x4), (5, .inl x5)] [.inl x3, .inl x2, .inl x4, .inr (.inl (some (7, 0)))] (c, σ, pr, τ) else pL F d 118 f 69 [(0, .inr (some (7, 0))), (1, .inl x1), (2, .inl x2), (3, .inl x3), (4, .inl x4), (5, .inl x5)] [.inl x3, .inl x2, .inl x4, .inr (.inl (some (7, 0)))] (c, σ, pr, τ)) := id rfl
theorem T118_33 (F d f : Nat) (x1 x2 x3 x4 x5 : Int32) (c : Nat → Nat) (σ : mSg) (τ : mLg) :
    pL F d 118 (f + 3) 33 [(0, .inr (some (7, 0))), (1, .inl x1), (2, .inl x2), (3, .inl x3), (4, .inl x4), (5, .inl x5)] [] (c, σ, pr, τ) = (if x5 = 32 then pL F d 118 f 40 [(0, .inr (some (7, 0))), (1, .inl x1), (2, .inl x2), (3, .inl x3), (4, .inl x4), (5, .inl x5)] [] (c, σ, pr, τ) else pL F d 118 f 51 [(0, .inr (some (7, 0))), (1, .inl x1), (2, .inl x2), (3, .inl x3), (4, .inl x4), (5, .inl x5)] [] (c, σ, pr, τ)) := id rfl
theorem T118_83 (F d f : Nat) (x1 x2 x3 x4 x5 : Int32) (c : Nat → Nat) (σ : mSg) (τ : mLg) :
    pL F d 118 (f + 2) 83 [(0, .inr (some (7, 0))), (1, .inl x1), (2, .inl x2), (3, .inl x3), (4, .inl x4), (5, .inl x5)] [] (c, σ, pr, τ) = (if x5 = 0 then pL F d 118 f 88 [(0, .inr (some (7, 0))), (1, .inl x1), (2, .inl x2), (3, .inl x3), (4, .inl x4), (5, .inl x5)] [] (c, σ, pr, τ) else pL F d 118 f 106 [(0, .inr (some (7, 0))), (1, .inl x1), (2, .inl x2), (3, .inl x3), (4, .inl x4), (5, .inl x5)] [] (c, σ, pr, τ)) := id rfl
theorem T118_88 (F d f : Nat) (x1 x2 x3 x4 x5 : Int32) (c : Nat → Nat) (σ : mSg) (τ : mLg) :
    pL F d 118 (f + 3) 88 [(0, .inr (some (7, 0))), (1, .inl x1), (2, .inl x2), (3, .inl x3), (4, .inl x4), (5, .inl x5)] [] (c, σ, pr, τ) = (if x4 = 5 then pL F d 118 f 94 [(0, .inr (some (7, 0))), (1, .inl x1), (2, .inl x2), (3, .inl x3), (4, .inl x4), (5, .inl x5)] [] (c, σ, pr, τ) else pL F d 118 f 108 [(0, .inr (some (7, 0))), (1, .inl x1), (2, .inl x2), (3, .inl x3), (4, .inl x4), (5, .inl x5)] [] (c, σ, pr, τ)) := id rfl
theorem T118_65 (F d f : Nat) (x1 x2 x3 x4 x5 x_0 x_1 x_2 : Int32) (c : Nat → Nat) (σ : mSg) (τ : mLg) :
    pL F d 118 (f + 3) 65 [(0, .inr (some (7, 0))), (1, .inl x1), (2, .inl x2), (3, .inl x3), (4, .inl x4), (5, .inl x5)] [.inl x_0, .inl x_1, .inl x_2, .inr (.inl (some (7, 0)))] (c, σ, pr, τ) = mq_ks (pX F d 116 [.inl x_2, .inl x_1, .inl x_0, .inl 1] (c, σ, pr, τ)) (fun w M => pL F d 118 f 73 [(0, .inr (some (7, 0))), (1, .inl x1), (2, .inl x2), (3, .inl x3), (4, .inl x4), (5, .inl x5)] (mq_psh w [.inr (.inl (some (7, 0)))]) M) := id rfl
theorem T118_69 (F d f : Nat) (x1 x2 x3 x4 x5 x_0 x_1 x_2 : Int32) (c : Nat → Nat) (σ : mSg) (τ : mLg) :
    pL F d 118 (f + 2) 69 [(0, .inr (some (7, 0))), (1, .inl x1), (2, .inl x2), (3, .inl x3), (4, .inl x4), (5, .inl x5)] [.inl x_0, .inl x_1, .inl x_2, .inr (.inl (some (7, 0)))] (c, σ, pr, τ) = mq_ks (pX F d 116 [.inl x_2, .inl x_1, .inl x_0, .inl 0] (c, σ, pr, τ)) (fun w M => pL F d 118 f 73 [(0, .inr (some (7, 0))), (1, .inl x1), (2, .inl x2), (3, .inl x3), (4, .inl x4), (5, .inl x5)] (mq_psh w [.inr (.inl (some (7, 0)))]) M) := id rfl
theorem T118_40 (F d f : Nat) (x1 x2 x3 x4 x5 : Int32) (c : Nat → Nat) (σ : mSg) (τ : mLg) :
    pL F d 118 (f + 2) 40 [(0, .inr (some (7, 0))), (1, .inl x1), (2, .inl x2), (3, .inl x3), (4, .inl x4), (5, .inl x5)] [] (c, σ, pr, τ) = (if x4 = 0 then pL F d 118 f 53 [(0, .inr (some (7, 0))), (1, .inl x1), (2, .inl x2), (3, .inl x3), (4, .inl x4), (5, .inl x5)] [] (c, σ, pr, τ) else pL F d 118 f 45 [(0, .inr (some (7, 0))), (1, .inl x1), (2, .inl x2), (3, .inl x3), (4, .inl x4), (5, .inl x5)] [] (c, σ, pr, τ)) := id rfl
theorem T118_51 (F d f : Nat) (x1 x2 x3 x4 x5 : Int32) (c : Nat → Nat) (σ : mSg) (τ : mLg) :
    pL F d 118 (f + 2) 51 [(0, .inr (some (7, 0))), (1, .inl x1), (2, .inl x2), (3, .inl x3), (4, .inl x4), (5, .inl x5)] [] (c, σ, pr, τ) = some (.inl (some (.inl 0)), (c, σ, pr, τ)) := id rfl
theorem T118_106 (F d f : Nat) (x1 x2 x3 x4 x5 : Int32) (c : Nat → Nat) (σ : mSg) (τ : mLg) :
    pL F d 118 (f + 2) 106 [(0, .inr (some (7, 0))), (1, .inl x1), (2, .inl x2), (3, .inl x3), (4, .inl x4), (5, .inl x5)] [] (c, σ, pr, τ) = some (.inl (some (.inl 0)), (c, σ, pr, τ)) := id rfl
theorem T118_94 (F d f : Nat) (x1 x2 x3 x4 x5 : Int32) (c : Nat → Nat) (σ : mSg) (τ : mLg) :
    pL F d 118 (f + 2) 94 [(0, .inr (some (7, 0))), (1, .inl x1), (2, .inl x2), (3, .inl x3), (4, .inl x4), (5, .inl x5)] [] (c, σ, pr, τ) = (if x5 = 0 then pL F d 118 f 108 [(0, .inr (some (7, 0))), (1, .inl x1), (2, .inl x2), (3, .inl x3), (4, .inl x4), (5, .inl x5)] [] (c, σ, pr, τ) else pL F d 118 f 99 [(0, .inr (some (7, 0))), (1, .inl x1), (2, .inl x2), (3, .inl x3), (4, .inl x4), (5, .inl x5)] [] (c, σ, pr, τ)) := id rfl
theorem T118_108 (F d f : Nat) (x1 x2 x3 x4 x5 : Int32) (c : Nat → Nat) (σ : mSg) (τ : mLg) :
    pL F d 118 (f + 9) 108 [(0, .inr (some (7, 0))), (1, .inl x1), (2, .inl x2), (3, .inl x3), (4, .inl x4), (5, .inl x5)] [] (c, σ, pr, τ) = (if x4 = 5 then pL F d 118 f 122 [(0, .inr (some (7, 0))), (1, .inl x1), (2, .inl x2), (3, .inl x3), (4, .inl x4), (5, .inl x5)] [.inl (x1 >>> (20 &&& 31)), .inl x2, .inl x4, .inr (.inl (some (7, 0)))] (c, σ, pr, τ) else pL F d 118 f 133 [(0, .inr (some (7, 0))), (1, .inl x1), (2, .inl x2), (3, .inl x3), (4, .inl x4), (5, .inl x5)] [.inl (x1 >>> (20 &&& 31)), .inl x2, .inl x4, .inr (.inl (some (7, 0)))] (c, σ, pr, τ)) := id rfl
theorem T118_73 (F d f : Nat) (x1 x2 x3 x4 x5 x_0 : Int32) (c : Nat → Nat) (σ : mSg) (τ : mLg) :
    pL F d 118 (f + 1) 73 [(0, .inr (some (7, 0))), (1, .inl x1), (2, .inl x2), (3, .inl x3), (4, .inl x4), (5, .inl x5)] [.inl x_0, .inr (.inl (some (7, 0)))] (c, σ, pr, τ) = mq_kv (pX F d 112 [.inr (some (7, 0)), .inl x_0] (c, σ, pr, τ)) (fun w M => pL F d 118 f 76 [(0, .inr (some (7, 0))), (1, .inl x1), (2, .inl x2), (3, .inl x3), (4, .inl x4), (5, .inl x5)] (mq_psh w []) M) := id rfl
theorem T118_45 (F d f : Nat) (x1 x2 x3 x4 x5 : Int32) (c : Nat → Nat) (σ : mSg) (τ : mLg) :
    pL F d 118 (f + 3) 45 [(0, .inr (some (7, 0))), (1, .inl x1), (2, .inl x2), (3, .inl x3), (4, .inl x4), (5, .inl x5)] [] (c, σ, pr, τ) = (if x4 = 5 then pL F d 118 f 53 [(0, .inr (some (7, 0))), (1, .inl x1), (2, .inl x2), (3, .inl x3), (4, .inl x4), (5, .inl x5)] [] (c, σ, pr, τ) else pL F d 118 f 51 [(0, .inr (some (7, 0))), (1, .inl x1), (2, .inl x2), (3, .inl x3), (4, .inl x4), (5, .inl x5)] [] (c, σ, pr, τ)) := id rfl
theorem T118_99 (F d f : Nat) (x1 x2 x3 x4 x5 : Int32) (c : Nat → Nat) (σ : mSg) (τ : mLg) :
    pL F d 118 (f + 3) 99 [(0, .inr (some (7, 0))), (1, .inl x1), (2, .inl x2), (3, .inl x3), (4, .inl x4), (5, .inl x5)] [] (c, σ, pr, τ) = (if x5 = 32 then pL F d 118 f 108 [(0, .inr (some (7, 0))), (1, .inl x1), (2, .inl x2), (3, .inl x3), (4, .inl x4), (5, .inl x5)] [] (c, σ, pr, τ) else pL F d 118 f 106 [(0, .inr (some (7, 0))), (1, .inl x1), (2, .inl x2), (3, .inl x3), (4, .inl x4), (5, .inl x5)] [] (c, σ, pr, τ)) := id rfl
theorem T118_122 (F d f : Nat) (x1 x2 x3 x4 x5 x_0 x_1 x_2 : Int32) (c : Nat → Nat) (σ : mSg) (τ : mLg) :
    pL F d 118 (f + 3) 122 [(0, .inr (some (7, 0))), (1, .inl x1), (2, .inl x2), (3, .inl x3), (4, .inl x4), (5, .inl x5)] [.inl x_0, .inl x_1, .inl x_2, .inr (.inl (some (7, 0)))] (c, σ, pr, τ) = (if x5 = 32 then pL F d 118 f 129 [(0, .inr (some (7, 0))), (1, .inl x1), (2, .inl x2), (3, .inl x3), (4, .inl x4), (5, .inl x5)] [.inl x_0, .inl x_1, .inl x_2, .inr (.inl (some (7, 0)))] (c, σ, pr, τ) else pL F d 118 f 133 [(0, .inr (some (7, 0))), (1, .inl x1), (2, .inl x2), (3, .inl x3), (4, .inl x4), (5, .inl x5)] [.inl x_0, .inl x_1, .inl x_2, .inr (.inl (some (7, 0)))] (c, σ, pr, τ)) := id rfl
theorem T118_133 (F d f : Nat) (x1 x2 x3 x4 x5 x_0 x_1 x_2 : Int32) (c : Nat → Nat) (σ : mSg) (τ : mLg) :
    pL F d 118 (f + 2) 133 [(0, .inr (some (7, 0))), (1, .inl x1), (2, .inl x2), (3, .inl x3), (4, .inl x4), (5, .inl x5)] [.inl x_0, .inl x_1, .inl x_2, .inr (.inl (some (7, 0)))] (c, σ, pr, τ) = mq_ks (pX F d 116 [.inl x_2, .inl x_1, .inl x_0, .inl 0] (c, σ, pr, τ)) (fun w M => pL F d 118 f 137 [(0, .inr (some (7, 0))), (1, .inl x1), (2, .inl x2), (3, .inl x3), (4, .inl x4), (5, .inl x5)] (mq_psh w [.inr (.inl (some (7, 0)))]) M) := id rfl
theorem T118_76 (F d f : Nat) (x1 x2 x3 x4 x5 x_0 : Int32) (c : Nat → Nat) (σ : mSg) (τ : mLg) :
    pL F d 118 (f + 1) 76 [(0, .inr (some (7, 0))), (1, .inl x1), (2, .inl x2), (3, .inl x3), (4, .inl x4), (5, .inl x5)] [.inl x_0] (c, σ, pr, τ) = some (.inl (some (.inl x_0)), (c, σ, pr, τ)) := id rfl
theorem T118_129 (F d f : Nat) (x1 x2 x3 x4 x5 x_0 x_1 x_2 : Int32) (c : Nat → Nat) (σ : mSg) (τ : mLg) :
    pL F d 118 (f + 3) 129 [(0, .inr (some (7, 0))), (1, .inl x1), (2, .inl x2), (3, .inl x3), (4, .inl x4), (5, .inl x5)] [.inl x_0, .inl x_1, .inl x_2, .inr (.inl (some (7, 0)))] (c, σ, pr, τ) = mq_ks (pX F d 116 [.inl x_2, .inl x_1, .inl x_0, .inl 1] (c, σ, pr, τ)) (fun w M => pL F d 118 f 137 [(0, .inr (some (7, 0))), (1, .inl x1), (2, .inl x2), (3, .inl x3), (4, .inl x4), (5, .inl x5)] (mq_psh w [.inr (.inl (some (7, 0)))]) M) := id rfl
theorem T118_137 (F d f : Nat) (x1 x2 x3 x4 x5 x_0 : Int32) (c : Nat → Nat) (σ : mSg) (τ : mLg) :
    pL F d 118 (f + 1) 137 [(0, .inr (some (7, 0))), (1, .inl x1), (2, .inl x2), (3, .inl x3), (4, .inl x4), (5, .inl x5)] [.inl x_0, .inr (.inl (some (7, 0)))] (c, σ, pr, τ) = mq_kv (pX F d 112 [.inr (some (7, 0)), .inl x_0] (c, σ, pr, τ)) (fun w M => pL F d 118 f 140 [(0, .inr (some (7, 0))), (1, .inl x1), (2, .inl x2), (3, .inl x3), (4, .inl x4), (5, .inl x5)] (mq_psh w []) M) := id rfl
theorem T118_140 (F d f : Nat) (x1 x2 x3 x4 x5 x_0 : Int32) (c : Nat → Nat) (σ : mSg) (τ : mLg) :
    pL F d 118 (f + 1) 140 [(0, .inr (some (7, 0))), (1, .inl x1), (2, .inl x2), (3, .inl x3), (4, .inl x4), (5, .inl x5)] [.inl x_0] (c, σ, pr, τ) = some (.inl (some (.inl x_0)), (c, σ, pr, τ)) := id rfl
/-! PartitionKernelModel.instruct(II)I -/
theorem T119 (F d : Nat) (x1 x2 : Int32) (c : Nat → Nat) (σ : mSg) (τ : mLg) :
    pX F (d + 1) 119 [.inr (some (7, 0)), .inl x1, .inl x2] (c, σ, pr, τ) = pL F d 119 F 0 [(0, .inr (some (7, 0))), (1, .inl x1), (2, .inl x2)] [] (c, σ, pr, τ) := id rfl
theorem T119_0 (F d f : Nat) (x1 x2 : Int32) (c : Nat → Nat) (σ : mSg) (τ : mLg) :
    pL F d 119 (f + 6) 0 [(0, .inr (some (7, 0))), (1, .inl x1), (2, .inl x2)] [] (c, σ, pr, τ) = (if x2 < 0 ∨ 32 ≤ Int32.toNatClampNeg x2 then none else mq_ks (pX F d 107 [.inl (σ 13 36 (Int32.toNatClampNeg x2)), .inl 4] (c, σ, pr, τ)) (fun w M => pL F d 119 f 10 [(0, .inr (some (7, 0))), (1, .inl x1), (2, .inl x2)] (mq_psh w []) M)) := id rfl
theorem T119_10 (F d f : Nat) (x1 x2 x_0 : Int32) (c : Nat → Nat) (σ : mSg) (τ : mLg) :
    pL F d 119 (f + 1) 10 [(0, .inr (some (7, 0))), (1, .inl x1), (2, .inl x2)] [.inl x_0] (c, σ, pr, τ) = (if x_0 = 0 then pL F d 119 f 13 [(0, .inr (some (7, 0))), (1, .inl x1), (2, .inl x2)] [] (c, σ, pr, τ) else pL F d 119 f 15 [(0, .inr (some (7, 0))), (1, .inl x1), (2, .inl x2)] [] (c, σ, pr, τ)) := id rfl
theorem T119_13 (F d f : Nat) (x1 x2 : Int32) (c : Nat → Nat) (σ : mSg) (τ : mLg) :
    pL F d 119 (f + 2) 13 [(0, .inr (some (7, 0))), (1, .inl x1), (2, .inl x2)] [] (c, σ, pr, τ) = some (.inl (some (.inl 1)), (c, σ, pr, τ)) := id rfl
theorem T119_15 (F d f : Nat) (x1 x2 : Int32) (c : Nat → Nat) (σ : mSg) (τ : mLg) :
    pL F d 119 (f + 8) 15 [(0, .inr (some (7, 0))), (1, .inl x1), (2, .inl x2)] [] (c, σ, pr, τ) = (if x2 < 0 ∨ 32 ≤ Int32.toNatClampNeg x2 then none else mq_kv (pX F d 108 [.inr (some (7, 0)), .inl x1, .inl (σ 13 36 (Int32.toNatClampNeg x2)), .inl 4] (c, σ, pr, τ)) (fun w M => pL F d 119 f 27 [(0, .inr (some (7, 0))), (1, .inl x1), (2, .inl x2)] (mq_psh w []) M)) := id rfl
theorem T119_27 (F d f : Nat) (x1 x2 x_0 : Int32) (c : Nat → Nat) (σ : mSg) (τ : mLg) :
    pL F d 119 (f + 10) 27 [(0, .inr (some (7, 0))), (1, .inl x1), (2, .inl x2)] [.inl x_0] (c, σ, pr, τ) = mq_ks (pX F d 110 [.inl x_0, .inl 15, .inl 5] (c, σ, pr, τ)) (fun w M => pL F d 119 f 43 [(0, .inr (some (7, 0))), (1, .inl x1), (2, .inl x2), (3, .inl x_0)] (mq_psh w [.inl (32 * x2), .inr (.inl (some (16, 0)))]) M) := id rfl
theorem T119_43 (F d f : Nat) (x1 x2 x3 x_0 x_1 : Int32) (c : Nat → Nat) (σ : mSg) (τ : mLg) :
    pL F d 119 (f + 12) 43 [(0, .inr (some (7, 0))), (1, .inl x1), (2, .inl x2), (3, .inl x3)] [.inl x_0, .inl x_1, .inr (.inl (some (16, 0)))] (c, σ, pr, τ) = (if (x_1 + x_0) < 0 ∨ 1024 ≤ Int32.toNatClampNeg (x_1 + x_0) then none else mq_ks (pX F d 110 [.inl x3, .inl 20, .inl 5] (c, σ, pr, τ)) (fun w M => pL F d 119 f 62 [(0, .inr (some (7, 0))), (1, .inl x1), (2, .inl x2), (3, .inl x3), (4, .inl (σ 16 0 (Int32.toNatClampNeg (x_1 + x_0))))] (mq_psh w [.inl (32 * x2), .inr (.inl (some (16, 0)))]) M)) := id rfl
theorem T119_62 (F d f : Nat) (x1 x2 x3 x4 x_0 x_1 : Int32) (c : Nat → Nat) (σ : mSg) (τ : mLg) :
    pL F d 119 (f + 18) 62 [(0, .inr (some (7, 0))), (1, .inl x1), (2, .inl x2), (3, .inl x3), (4, .inl x4)] [.inl x_0, .inl x_1, .inr (.inl (some (16, 0)))] (c, σ, pr, τ) = (if (x_1 + x_0) < 0 ∨ 1024 ≤ Int32.toNatClampNeg (x_1 + x_0) then none else (if x2 < 0 ∨ 32 ≤ Int32.toNatClampNeg x2 then none else pL F d 119 f (mq_swt (x3 &&& 127) 291 [(3, 212), (19, 264), (23, 186), (35, 232), (51, 264), (55, 176), (99, 203), (103, 203), (111, 203), (115, 274)]) [(0, .inr (some (7, 0))), (1, .inl x1), (2, .inl x2), (3, .inl x3), (4, .inl x4), (5, .inl (σ 16 0 (Int32.toNatClampNeg (x_1 + x_0))))] [] (c, (mq_up (mq_up σ 7 0 41 ((σ 13 36 (Int32.toNatClampNeg x2)) + 4)) 7 0 43 0), pr, τ))) := id rfl
theorem T119_176 (F d f : Nat) (x1 x2 x3 x4 x5 : Int32) (c : Nat → Nat) (σ : mSg) (τ : mLg) :
    pL F d 119 (f + 5) 176 [(0, .inr (some (7, 0))), (1, .inl x1), (2, .inl x2), (3, .inl x3), (4, .inl x4), (5, .inl x5)] [] (c, σ, pr, τ) = mq_kv (pX F d 112 [.inr (some (7, 0)), .inl (x3 &&& (-4096))] (c, σ, pr, τ)) (fun w M => pL F d 119 f 185 [(0, .inr (some (7, 0))), (1, .inl x1), (2, .inl x2), (3, .inl x3), (4, .inl x4), (5, .inl x5)] (mq_psh w []) M) := id rfl
theorem T119_186 (F d f : Nat) (x1 x2 x3 x4 x5 : Int32) (c : Nat → Nat) (σ : mSg) (τ : mLg) :
    pL F d 119 (f + 10) 186 [(0, .inr (some (7, 0))), (1, .inl x1), (2, .inl x2), (3, .inl x3), (4, .inl x4), (5, .inl x5)] [] (c, σ, pr, τ) = (if x2 < 0 ∨ 32 ≤ Int32.toNatClampNeg x2 then none else mq_kv (pX F d 112 [.inr (some (7, 0)), .inl ((σ 13 36 (Int32.toNatClampNeg x2)) + (x3 &&& (-4096)))] (c, σ, pr, τ)) (fun w M => pL F d 119 f 202 [(0, .inr (some (7, 0))), (1, .inl x1), (2, .inl x2), (3, .inl x3), (4, .inl x4), (5, .inl x5)] (mq_psh w []) M)) := id rfl
theorem T119_203 (F d f : Nat) (x1 x2 x3 x4 x5 : Int32) (c : Nat → Nat) (σ : mSg) (τ : mLg) :
    pL F d 119 (f + 5) 203 [(0, .inr (some (7, 0))), (1, .inl x1), (2, .inl x2), (3, .inl x3), (4, .inl x4), (5, .inl x5)] [] (c, σ, pr, τ) = mq_kv (pX F d 117 [.inr (some (7, 0)), .inl x2, .inl x3, .inl x4] (c, σ, pr, τ)) (fun w M => pL F d 119 f 211 [(0, .inr (some (7, 0))), (1, .inl x1), (2, .inl x2), (3, .inl x3), (4, .inl x4), (5, .inl x5)] (mq_psh w []) M) := id rfl
theorem T119_212 (F d f : Nat) (x1 x2 x3 x4 x5 : Int32) (c : Nat → Nat) (σ : mSg) (τ : mLg) :
    pL F d 119 (f + 6) 212 [(0, .inr (some (7, 0))), (1, .inl x1), (2, .inl x2), (3, .inl x3), (4, .inl x4), (5, .inl x5)] [] (c, σ, pr, τ) = mq_ks (pX F d 110 [.inl x3, .inl 12, .inl 3] (c, σ, pr, τ)) (fun w M => pL F d 119 f 221 [(0, .inr (some (7, 0))), (1, .inl x1), (2, .inl x2), (3, .inl x3), (4, .inl x4), (5, .inl x5)] (mq_psh w [.inl x1, .inr (.inl (some (7, 0)))]) M) := id rfl
theorem T119_232 (F d f : Nat) (x1 x2 x3 x4 x5 : Int32) (c : Nat → Nat) (σ : mSg) (τ : mLg) :
    pL F d 119 (f + 6) 232 [(0, .inr (some (7, 0))), (1, .inl x1), (2, .inl x2), (3, .inl x3), (4, .inl x4), (5, .inl x5)] [] (c, σ, pr, τ) = mq_ks (pX F d 110 [.inl x3, .inl 12, .inl 3] (c, σ, pr, τ)) (fun w M => pL F d 119 f 241 [(0, .inr (some (7, 0))), (1, .inl x1), (2, .inl x2), (3, .inl x3), (4, .inl x4), (5, .inl x5)] (mq_psh w [.inl x1, .inr (.inl (some (7, 0)))]) M) := id rfl
theorem T119_264 (F d f : Nat) (x1 x2 x3 x4 x5 : Int32) (c : Nat → Nat) (σ : mSg) (τ : mLg) :
    pL F d 119 (f + 5) 264 [(0, .inr (some (7, 0))), (1, .inl x1), (2, .inl x2), (3, .inl x3), (4, .inl x4), (5, .inl x5)] [] (c, σ, pr, τ) = mq_kv (pX F d 118 [.inr (some (7, 0)), .inl x3, .inl x4, .inl x5] (c, σ, pr, τ)) (fun w M => pL F d 119 f 273 [(0, .inr (some (7, 0))), (1, .inl x1), (2, .inl x2), (3, .inl x3), (4, .inl x4), (5, .inl x5)] (mq_psh w []) M) := id rfl
theorem T119_274 (F d f : Nat) (x1 x2 x3 x4 x5 : Int32) (c : Nat → Nat) (σ : mSg) (τ : mLg) :
    pL F d 119 (f + 3) 274 [(0, .inr (some (7, 0))), (1, .inl x1), (2, .inl x2), (3, .inl x3), (4, .inl x4), (5, .inl x5)] [] (c, σ, pr, τ) = (if x3 = 115 then pL F d 119 f 280 [(0, .inr (some (7, 0))), (1, .inl x1), (2, .inl x2), (3, .inl x3), (4, .inl x4), (5, .inl x5)] [] (c, σ, pr, τ) else pL F d 119 f 289 [(0, .inr (some (7, 0))), (1, .inl x1), (2, .inl x2), (3, .inl x3), (4, .inl x4), (5, .inl x5)] [] (c, σ, pr, τ)) := id rfl
theorem T119_291 (F d f : Nat) (x1 x2 x3 x4 x5 : Int32) (c : Nat → Nat) (σ : mSg) (τ : mLg) :
    pL F d 119 (f + 2) 291 [(0, .inr (some (7, 0))), (1, .inl x1), (2, .inl x2), (3, .inl x3), (4, .inl x4), (5, .inl x5)] [] (c, σ, pr, τ) = some (.inl (some (.inl 0)), (c, σ, pr, τ)) := id rfl
theorem T119_185 (F d f : Nat) (x1 x2 x3 x4 x5 x_0 : Int32) (c : Nat → Nat) (σ : mSg) (τ : mLg) :
    pL F d 119 (f + 1) 185 [(0, .inr (some (7, 0))), (1, .inl x1), (2, .inl x2), (3, .inl x3), (4, .inl x4), (5, .inl x5)] [.inl x_0] (c, σ, pr, τ) = some (.inl (some (.inl x_0)), (c, σ, pr, τ)) := id rfl
theorem T119_202 (F d f : Nat) (x1 x2 x3 x4 x5 x_0 : Int32) (c : Nat → Nat) (σ : mSg) (τ : mLg) :
    pL F d 119 (f + 1) 202 [(0, .inr (some (7, 0))), (1, .inl x1), (2, .inl x2), (3, .inl x3), (4, .inl x4), (5, .inl x5)] [.inl x_0] (c, σ, pr, τ) = some (.inl (some (.inl x_0)), (c, σ, pr, τ)) := id rfl
theorem T119_211 (F d f : Nat) (x1 x2 x3 x4 x5 x_0 : Int32) (c : Nat → Nat) (σ : mSg) (τ : mLg) :
    pL F d 119 (f + 1) 211 [(0, .inr (some (7, 0))), (1, .inl x1), (2, .inl x2), (3, .inl x3), (4, .inl x4), (5, .inl x5)] [.inl x_0] (c, σ, pr, τ) = some (.inl (some (.inl x_0)), (c, σ, pr, τ)) := id rfl
theorem T119_221 (F d f : Nat) (x1 x2 x3 x4 x5 x_0 x_1 : Int32) (c : Nat → Nat) (σ : mSg) (τ : mLg) :
    pL F d 119 (f + 6) 221 [(0, .inr (some (7, 0))), (1, .inl x1), (2, .inl x2), (3, .inl x3), (4, .inl x4), (5, .inl x5)] [.inl x_0, .inl x_1, .inr (.inl (some (7, 0)))] (c, σ, pr, τ) = mq_kv (pX F d 113 [.inr (some (7, 0)), .inl x_1, .inl x_0, .inl (x4 + (x3 >>> (20 &&& 31)))] (c, σ, pr, τ)) (fun w M => pL F d 119 f 231 [(0, .inr (some (7, 0))), (1, .inl x1), (2, .inl x2), (3, .inl x3), (4, .inl x4), (5, .inl x5)] (mq_psh w []) M) := id rfl
theorem T119_241 (F d f : Nat) (x1 x2 x3 x4 x5 x_0 x_1 : Int32) (c : Nat → Nat) (σ : mSg) (τ : mLg) :
    pL F d 119 (f + 10) 241 [(0, .inr (some (7, 0))), (1, .inl x1), (2, .inl x2), (3, .inl x3), (4, .inl x4), (5, .inl x5)] [.inl x_0, .inl x_1, .inr (.inl (some (7, 0)))] (c, σ, pr, τ) = mq_ks (pX F d 110 [.inl x3, .inl 7, .inl 5] (c, σ, pr, τ)) (fun w M => pL F d 119 f 256 [(0, .inr (some (7, 0))), (1, .inl x1), (2, .inl x2), (3, .inl x3), (4, .inl x4), (5, .inl x5)] (mq_psh w [.inl ((x3 >>> (25 &&& 31)) <<< (5 &&& 31)), .inl x4, .inl x_0, .inl x_1, .inr (.inl (some (7, 0)))]) M) := id rfl
theorem T119_273 (F d f : Nat) (x1 x2 x3 x4 x5 x_0 : Int32) (c : Nat → Nat) (σ : mSg) (τ : mLg) :
    pL F d 119 (f + 1) 273 [(0, .inr (some (7, 0))), (1, .inl x1), (2, .inl x2), (3, .inl x3), (4, .inl x4), (5, .inl x5)] [.inl x_0] (c, σ, pr, τ) = some (.inl (some (.inl x_0)), (c, σ, pr, τ)) := id rfl
theorem T119_280 (F d f : Nat) (x1 x2 x3 x4 x5 : Int32) (c : Nat → Nat) (σ : mSg) (τ : mLg) :
    pL F d 119 (f + 4) 280 [(0, .inr (some (7, 0))), (1, .inl x1), (2, .inl x2), (3, .inl x3), (4, .inl x4), (5, .inl x5)] [] (c, σ, pr, τ) = mq_kv (pX F d 129 [.inr (some (7, 0)), .inl x1, .inl x2] (c, σ, pr, τ)) (fun w M => pL F d 119 f 286 [(0, .inr (some (7, 0))), (1, .inl x1), (2, .inl x2), (3, .inl x3), (4, .inl x4), (5, .inl x5)] (mq_psh w []) M) := id rfl
theorem T119_289 (F d f : Nat) (x1 x2 x3 x4 x5 : Int32) (c : Nat → Nat) (σ : mSg) (τ : mLg) :
    pL F d 119 (f + 2) 289 [(0, .inr (some (7, 0))), (1, .inl x1), (2, .inl x2), (3, .inl x3), (4, .inl x4), (5, .inl x5)] [] (c, σ, pr, τ) = some (.inl (some (.inl 0)), (c, σ, pr, τ)) := id rfl
theorem T119_231 (F d f : Nat) (x1 x2 x3 x4 x5 x_0 : Int32) (c : Nat → Nat) (σ : mSg) (τ : mLg) :
    pL F d 119 (f + 1) 231 [(0, .inr (some (7, 0))), (1, .inl x1), (2, .inl x2), (3, .inl x3), (4, .inl x4), (5, .inl x5)] [.inl x_0] (c, σ, pr, τ) = some (.inl (some (.inl x_0)), (c, σ, pr, τ)) := id rfl
theorem T119_256 (F d f : Nat) (x1 x2 x3 x4 x5 x_0 x_1 x_2 x_3 x_4 : Int32) (c : Nat → Nat) (σ : mSg) (τ : mLg) :
    pL F d 119 (f + 4) 256 [(0, .inr (some (7, 0))), (1, .inl x1), (2, .inl x2), (3, .inl x3), (4, .inl x4), (5, .inl x5)] [.inl x_0, .inl x_1, .inl x_2, .inl x_3, .inl x_4, .inr (.inl (some (7, 0)))] (c, σ, pr, τ) = mq_kv (pX F d 114 [.inr (some (7, 0)), .inl x_4, .inl x_3, .inl (x_2 + (x_1 ||| x_0)), .inl x5] (c, σ, pr, τ)) (fun w M => pL F d 119 f 263 [(0, .inr (some (7, 0))), (1, .inl x1), (2, .inl x2), (3, .inl x3), (4, .inl x4), (5, .inl x5)] (mq_psh w []) M) := id rfl
theorem T119_286 (F d f : Nat) (x1 x2 x3 x4 x5 x_0 : Int32) (c : Nat → Nat) (σ : mSg) (τ : mLg) :
    pL F d 119 (f + 2) 286 [(0, .inr (some (7, 0))), (1, .inl x1), (2, .inl x2), (3, .inl x3), (4, .inl x4), (5, .inl x5)] [.inl x_0] (c, σ, pr, τ) = some (.inl (some (.inl x_0)), (c, σ, pr, τ)) := id rfl
theorem T119_263 (F d f : Nat) (x1 x2 x3 x4 x5 x_0 : Int32) (c : Nat → Nat) (σ : mSg) (τ : mLg) :
    pL F d 119 (f + 1) 263 [(0, .inr (some (7, 0))), (1, .inl x1), (2, .inl x2), (3, .inl x3), (4, .inl x4), (5, .inl x5)] [.inl x_0] (c, σ, pr, τ) = some (.inl (some (.inl x_0)), (c, σ, pr, τ)) := id rfl
/-! PartitionKernelModel.timed(II)V -/
theorem T120 (F d : Nat) (x1 x2 : Int32) (c : Nat → Nat) (σ : mSg) (τ : mLg) :
    pX F (d + 1) 120 [.inr (some (7, 0)), .inl x1, .inl x2] (c, σ, pr, τ) = pL F d 120 F 0 [(0, .inr (some (7, 0))), (1, .inl x1), (2, .inl x2)] [] (c, σ, pr, τ) := id rfl
theorem T120_0 (F d f : Nat) (x1 x2 : Int32) (c : Nat → Nat) (σ : mSg) (τ : mLg) :
    pL F d 120 (f + 11) 0 [(0, .inr (some (7, 0))), (1, .inl x1), (2, .inl x2)] [] (c, σ, pr, τ) = (if x1 < 0 ∨ 32 ≤ Int32.toNatClampNeg x1 then none else (if x1 < 0 ∨ 32 ≤ Int32.toNatClampNeg x1 then none else some (.inl (none), (c, (mq_up (mq_up σ 13 37 (Int32.toNatClampNeg x1) 2) 13 39 (Int32.toNatClampNeg x1) x2), pr, τ)))) := id rfl
/-! PartitionKernelModel.periodic(I)I -/
theorem T121 (F d : Nat) (x1 : Int32) (c : Nat → Nat) (σ : mSg) (τ : mLg) :
    pX F (d + 1) 121 [.inr (some (7, 0)), .inl x1] (c, σ, pr, τ) = pL F d 121 F 0 [(0, .inr (some (7, 0))), (1, .inl x1)] [] (c, σ, pr, τ) := id rfl
theorem T121_0 (F d f : Nat) (x1 : Int32) (c : Nat → Nat) (σ : mSg) (τ : mLg) :
    pL F d 121 (f + 5) 0 [(0, .inr (some (7, 0))), (1, .inl x1)] [] (c, σ, pr, τ) = (if x1 < 0 ∨ 32 ≤ Int32.toNatClampNeg x1 then none else (if (σ 13 34 (Int32.toNatClampNeg x1)) = 0 then pL F d 121 f 9 [(0, .inr (some (7, 0))), (1, .inl x1)] [] (c, σ, pr, τ) else pL F d 121 f 11 [(0, .inr (some (7, 0))), (1, .inl x1)] [] (c, σ, pr, τ))) := id rfl
theorem T121_9 (F d f : Nat) (x1 : Int32) (c : Nat → Nat) (σ : mSg) (τ : mLg) :
    pL F d 121 (f + 2) 9 [(0, .inr (some (7, 0))), (1, .inl x1)] [] (c, σ, pr, τ) = some (.inl (some (.inl 1)), (c, σ, pr, τ)) := id rfl
theorem T121_11 (F d f : Nat) (x1 : Int32) (c : Nat → Nat) (σ : mSg) (τ : mLg) :
    pL F d 121 (f + 18) 11 [(0, .inr (some (7, 0))), (1, .inl x1)] [] (c, σ, pr, τ) = (if x1 < 0 ∨ 32 ≤ Int32.toNatClampNeg x1 then none else (if x1 < 0 ∨ 32 ≤ Int32.toNatClampNeg x1 then none else (if x1 < 0 ∨ 32 ≤ Int32.toNatClampNeg x1 then none else (if x1 < 0 ∨ 32 ≤ Int32.toNatClampNeg x1 then none else mq_kv (pX F d 120 [.inr (some (7, 0)), .inl x1, .inl ((mq_up σ 13 43 (Int32.toNatClampNeg x1) ((σ 13 43 (Int32.toNatClampNeg x1)) + (σ 13 34 (Int32.toNatClampNeg x1)))) 13 43 (Int32.toNatClampNeg x1))] (c, (mq_up σ 13 43 (Int32.toNatClampNeg x1) ((σ 13 43 (Int32.toNatClampNeg x1)) + (σ 13 34 (Int32.toNatClampNeg x1)))), pr, τ)) (fun w M => pL F d 121 f 37 [(0, .inr (some (7, 0))), (1, .inl x1)] (mq_psh w []) M))))) := id rfl
theorem T121_37 (F d f : Nat) (x1 : Int32) (c : Nat → Nat) (σ : mSg) (τ : mLg) :
    pL F d 121 (f + 5) 37 [(0, .inr (some (7, 0))), (1, .inl x1)] [] (c, σ, pr, τ) = (if x1 < 0 ∨ 32 ≤ Int32.toNatClampNeg x1 then none else (if 0 < (σ 13 35 (Int32.toNatClampNeg x1)) then pL F d 121 f 46 [(0, .inr (some (7, 0))), (1, .inl x1)] [] (c, σ, pr, τ) else pL F d 121 f 65 [(0, .inr (some (7, 0))), (1, .inl x1)] [] (c, σ, pr, τ))) := id rfl
theorem T121_46 (F d f : Nat) (x1 : Int32) (c : Nat → Nat) (σ : mSg) (τ : mLg) :
    pL F d 121 (f + 15) 46 [(0, .inr (some (7, 0))), (1, .inl x1)] [] (c, σ, pr, τ) = (if x1 < 0 ∨ 32 ≤ Int32.toNatClampNeg x1 then none else (if x1 < 0 ∨ 32 ≤ Int32.toNatClampNeg x1 then none else (if x1 < 0 ∨ 32 ≤ Int32.toNatClampNeg x1 then none else some (.inl (some (.inl 0)), (c, (mq_up σ 13 38 (Int32.toNatClampNeg x1) ((σ 13 43 (Int32.toNatClampNeg x1)) + (σ 13 35 (Int32.toNatClampNeg x1)))), pr, τ))))) := id rfl
theorem T121_65 (F d f : Nat) (x1 : Int32) (c : Nat → Nat) (σ : mSg) (τ : mLg) :
    pL F d 121 (f + 2) 65 [(0, .inr (some (7, 0))), (1, .inl x1)] [] (c, σ, pr, τ) = some (.inl (some (.inl 0)), (c, σ, pr, τ)) := id rfl
/-! PartitionKernelModel.sleepFor(II)I -/
theorem T122 (F d : Nat) (x1 x2 : Int32) (c : Nat → Nat) (σ : mSg) (τ : mLg) :
    pX F (d + 1) 122 [.inr (some (7, 0)), .inl x1, .inl x2] (c, σ, pr, τ) = pL F d 122 F 0 [(0, .inr (some (7, 0))), (1, .inl x1), (2, .inl x2)] [] (c, σ, pr, τ) := id rfl
theorem T122_0 (F d f : Nat) (x1 x2 : Int32) (c : Nat → Nat) (σ : mSg) (τ : mLg) :
    pL F d 122 (f + 3) 0 [(0, .inr (some (7, 0))), (1, .inl x1), (2, .inl x2)] [] (c, σ, pr, τ) = mq_ks (pX F d 101 [.inl x2, .inl 100001] (c, σ, pr, τ)) (fun w M => pL F d 122 f 6 [(0, .inr (some (7, 0))), (1, .inl x1), (2, .inl x2)] (mq_psh w []) M) := id rfl
theorem T122_6 (F d f : Nat) (x1 x2 x_0 : Int32) (c : Nat → Nat) (σ : mSg) (τ : mLg) :
    pL F d 122 (f + 1) 6 [(0, .inr (some (7, 0))), (1, .inl x1), (2, .inl x2)] [.inl x_0] (c, σ, pr, τ) = (if x_0 = 0 then pL F d 122 f 9 [(0, .inr (some (7, 0))), (1, .inl x1), (2, .inl x2)] [] (c, σ, pr, τ) else pL F d 122 f 11 [(0, .inr (some (7, 0))), (1, .inl x1), (2, .inl x2)] [] (c, σ, pr, τ)) := id rfl
theorem T122_9 (F d f : Nat) (x1 x2 : Int32) (c : Nat → Nat) (σ : mSg) (τ : mLg) :
    pL F d 122 (f + 2) 9 [(0, .inr (some (7, 0))), (1, .inl x1), (2, .inl x2)] [] (c, σ, pr, τ) = some (.inl (some (.inl 1)), (c, σ, pr, τ)) := id rfl
theorem T122_11 (F d f : Nat) (x1 x2 : Int32) (c : Nat → Nat) (σ : mSg) (τ : mLg) :
    pL F d 122 (f + 7) 11 [(0, .inr (some (7, 0))), (1, .inl x1), (2, .inl x2)] [] (c, σ, pr, τ) = mq_kv (pX F d 120 [.inr (some (7, 0)), .inl x1, .inl ((σ 7 0 2) + x2)] (c, σ, pr, τ)) (fun w M => pL F d 122 f 22 [(0, .inr (some (7, 0))), (1, .inl x1), (2, .inl x2)] (mq_psh w []) M) := id rfl
theorem T122_22 (F d f : Nat) (x1 x2 : Int32) (c : Nat → Nat) (σ : mSg) (τ : mLg) :
    pL F d 122 (f + 2) 22 [(0, .inr (some (7, 0))), (1, .inl x1), (2, .inl x2)] [] (c, σ, pr, τ) = some (.inl (some (.inl 0)), (c, σ, pr, τ)) := id rfl
/-! PartitionKernelModel.startOther(II)I -/
theorem T123 (F d : Nat) (x1 x2 : Int32) (c : Nat → Nat) (σ : mSg) (τ : mLg) :
    pX F (d + 1) 123 [.inr (some (7, 0)), .inl x1, .inl x2] (c, σ, pr, τ) = pL F d 123 F 0 [(0, .inr (some (7, 0))), (1, .inl x1), (2, .inl x2)] [] (c, σ, pr, τ) := id rfl
theorem T123_0 (F d f : Nat) (x1 x2 : Int32) (c : Nat → Nat) (σ : mSg) (τ : mLg) :
    pL F d 123 (f + 6) 0 [(0, .inr (some (7, 0))), (1, .inl x1), (2, .inl x2)] [] (c, σ, pr, τ) = (if x1 < 0 ∨ 4 ≤ Int32.toNatClampNeg x1 then none else mq_ks (pX F d 101 [.inl x2, .inl (σ 10 8 (Int32.toNatClampNeg x1))] (c, σ, pr, τ)) (fun w M => pL F d 123 f 10 [(0, .inr (some (7, 0))), (1, .inl x1), (2, .inl x2)] (mq_psh w []) M)) := id rfl
theorem T123_10 (F d f : Nat) (x1 x2 x_0 : Int32) (c : Nat → Nat) (σ : mSg) (τ : mLg) :
    pL F d 123 (f + 1) 10 [(0, .inr (some (7, 0))), (1, .inl x1), (2, .inl x2)] [.inl x_0] (c, σ, pr, τ) = (if x_0 = 0 then pL F d 123 f 27 [(0, .inr (some (7, 0))), (1, .inl x1), (2, .inl x2)] [] (c, σ, pr, τ) else pL F d 123 f 13 [(0, .inr (some (7, 0))), (1, .inl x1), (2, .inl x2)] [] (c, σ, pr, τ)) := id rfl
theorem T123_27 (F d f : Nat) (x1 x2 : Int32) (c : Nat → Nat) (σ : mSg) (τ : mLg) :
    pL F d 123 (f + 2) 27 [(0, .inr (some (7, 0))), (1, .inl x1), (2, .inl x2)] [] (c, σ, pr, τ) = some (.inl (some (.inl 1)), (c, σ, pr, τ)) := id rfl
theorem T123_13 (F d f : Nat) (x1 x2 : Int32) (c : Nat → Nat) (σ : mSg) (τ : mLg) :
    pL F d 123 (f + 9) 13 [(0, .inr (some (7, 0))), (1, .inl x1), (2, .inl x2)] [] (c, σ, pr, τ) = (if ((8 * x1) + x2) < 0 ∨ 32 ≤ Int32.toNatClampNeg ((8 * x1) + x2) then none else (if (σ 13 37 (Int32.toNatClampNeg ((8 * x1) + x2))) = 0 then pL F d 123 f 29 [(0, .inr (some (7, 0))), (1, .inl x1), (2, .inl x2)] [] (c, σ, pr, τ) else pL F d 123 f 27 [(0, .inr (some (7, 0))), (1, .inl x1), (2, .inl x2)] [] (c, σ, pr, τ))) := id rfl
theorem T123_29 (F d f : Nat) (x1 x2 : Int32) (c : Nat → Nat) (σ : mSg) (τ : mLg) :
    pL F d 123 (f + 7) 29 [(0, .inr (some (7, 0))), (1, .inl x1), (2, .inl x2)] [] (c, σ, pr, τ) = mq_kv (pX F d 103 [.inr (some (7, 0)), .inl ((8 * x1) + x2)] (c, σ, pr, τ)) (fun w M => pL F d 123 f 39 [(0, .inr (some (7, 0))), (1, .inl x1), (2, .inl x2)] (mq_psh w []) M) := id rfl
theorem T123_39 (F d f : Nat) (x1 x2 : Int32) (c : Nat → Nat) (σ : mSg) (τ : mLg) :
    pL F d 123 (f + 2) 39 [(0, .inr (some (7, 0))), (1, .inl x1), (2, .inl x2)] [] (c, σ, pr, τ) = some (.inl (some (.inl 0)), (c, σ, pr, τ)) := id rfl
/-! PartitionKernelModel.rank(III)I -/
theorem T124 (F d : Nat) (x1 x2 x3 : Int32) (c : Nat → Nat) (σ : mSg) (τ : mLg) :
    pX F (d + 1) 124 [.inr (some (7, 0)), .inl x1, .inl x2, .inl x3] (c, σ, pr, τ) = pL F d 124 F 0 [(0, .inr (some (7, 0))), (1, .inl x1), (2, .inl x2), (3, .inl x3)] [] (c, σ, pr, τ) := id rfl
theorem T124_0 (F d f : Nat) (x1 x2 x3 : Int32) (c : Nat → Nat) (σ : mSg) (τ : mLg) :
    pL F d 124 (f + 6) 0 [(0, .inr (some (7, 0))), (1, .inl x1), (2, .inl x2), (3, .inl x3)] [] (c, σ, pr, τ) = (if x1 < 0 ∨ 4 ≤ Int32.toNatClampNeg x1 then none else mq_ks (pX F d 101 [.inl x2, .inl (σ 10 8 (Int32.toNatClampNeg x1))] (c, σ, pr, τ)) (fun w M => pL F d 124 f 10 [(0, .inr (some (7, 0))), (1, .inl x1), (2, .inl x2), (3, .inl x3)] (mq_psh w []) M)) := id rfl
theorem T124_10 (F d f : Nat) (x1 x2 x3 x_0 : Int32) (c : Nat → Nat) (σ : mSg) (τ : mLg) :
    pL F d 124 (f + 1) 10 [(0, .inr (some (7, 0))), (1, .inl x1), (2, .inl x2), (3, .inl x3)] [.inl x_0] (c, σ, pr, τ) = (if x_0 = 0 then pL F d 124 f 22 [(0, .inr (some (7, 0))), (1, .inl x1), (2, .inl x2), (3, .inl x3)] [] (c, σ, pr, τ) else pL F d 124 f 13 [(0, .inr (some (7, 0))), (1, .inl x1), (2, .inl x2), (3, .inl x3)] [] (c, σ, pr, τ)) := id rfl
theorem T124_22 (F d f : Nat) (x1 x2 x3 : Int32) (c : Nat → Nat) (σ : mSg) (τ : mLg) :
    pL F d 124 (f + 2) 22 [(0, .inr (some (7, 0))), (1, .inl x1), (2, .inl x2), (3, .inl x3)] [] (c, σ, pr, τ) = some (.inl (some (.inl 1)), (c, σ, pr, τ)) := id rfl
theorem T124_13 (F d f : Nat) (x1 x2 x3 : Int32) (c : Nat → Nat) (σ : mSg) (τ : mLg) :
    pL F d 124 (f + 3) 13 [(0, .inr (some (7, 0))), (1, .inl x1), (2, .inl x2), (3, .inl x3)] [] (c, σ, pr, τ) = mq_ks (pX F d 101 [.inl x3, .inl 16] (c, σ, pr, τ)) (fun w M => pL F d 124 f 19 [(0, .inr (some (7, 0))), (1, .inl x1), (2, .inl x2), (3, .inl x3)] (mq_psh w []) M) := id rfl
theorem T124_19 (F d f : Nat) (x1 x2 x3 x_0 : Int32) (c : Nat → Nat) (σ : mSg) (τ : mLg) :
    pL F d 124 (f + 1) 19 [(0, .inr (some (7, 0))), (1, .inl x1), (2, .inl x2), (3, .inl x3)] [.inl x_0] (c, σ, pr, τ) = (if x_0 = 0 then pL F d 124 f 22 [(0, .inr (some (7, 0))), (1, .inl x1), (2, .inl x2), (3, .inl x3)] [] (c, σ, pr, τ) else pL F d 124 f 24 [(0, .inr (some (7, 0))), (1, .inl x1), (2, .inl x2), (3, .inl x3)] [] (c, σ, pr, τ)) := id rfl
theorem T124_24 (F d f : Nat) (x1 x2 x3 : Int32) (c : Nat → Nat) (σ : mSg) (τ : mLg) :
    pL F d 124 (f + 11) 24 [(0, .inr (some (7, 0))), (1, .inl x1), (2, .inl x2), (3, .inl x3)] [] (c, σ, pr, τ) = (if ((8 * x1) + x2) < 0 ∨ 32 ≤ Int32.toNatClampNeg ((8 * x1) + x2) then none else some (.inl (some (.inl 0)), (c, (mq_up σ 13 33 (Int32.toNatClampNeg ((8 * x1) + x2)) x3), pr, τ))) := id rfl
/-! PartitionKernelModel.take(III)I -/
theorem T125 (F d : Nat) (x1 x2 x3 : Int32) (c : Nat → Nat) (σ : mSg) (τ : mLg) :
    pX F (d + 1) 125 [.inr (some (7, 0)), .inl x1, .inl x2, .inl x3] (c, σ, pr, τ) = pL F d 125 F 0 [(0, .inr (some (7, 0))), (1, .inl x1), (2, .inl x2), (3, .inl x3)] [] (c, σ, pr, τ) := id rfl
theorem T125_0 (F d f : Nat) (x1 x2 x3 : Int32) (c : Nat → Nat) (σ : mSg) (τ : mLg) :
    pL F d 125 (f + 3) 0 [(0, .inr (some (7, 0))), (1, .inl x1), (2, .inl x2), (3, .inl x3)] [] (c, σ, pr, τ) = mq_ks (pX F d 101 [.inl x3, .inl 4] (c, σ, pr, τ)) (fun w M => pL F d 125 f 5 [(0, .inr (some (7, 0))), (1, .inl x1), (2, .inl x2), (3, .inl x3)] (mq_psh w []) M) := id rfl
theorem T125_5 (F d f : Nat) (x1 x2 x3 x_0 : Int32) (c : Nat → Nat) (σ : mSg) (τ : mLg) :
    pL F d 125 (f + 1) 5 [(0, .inr (some (7, 0))), (1, .inl x1), (2, .inl x2), (3, .inl x3)] [.inl x_0] (c, σ, pr, τ) = (if x_0 = 0 then pL F d 125 f 8 [(0, .inr (some (7, 0))), (1, .inl x1), (2, .inl x2), (3, .inl x3)] [] (c, σ, pr, τ) else pL F d 125 f 10 [(0, .inr (some (7, 0))), (1, .inl x1), (2, .inl x2), (3, .inl x3)] [] (c, σ, pr, τ)) := id rfl
theorem T125_8 (F d f : Nat) (x1 x2 x3 : Int32) (c : Nat → Nat) (σ : mSg) (τ : mLg) :
    pL F d 125 (f + 2) 8 [(0, .inr (some (7, 0))), (1, .inl x1), (2, .inl x2), (3, .inl x3)] [] (c, σ, pr, τ) = some (.inl (some (.inl 1)), (c, σ, pr, τ)) := id rfl
theorem T125_10 (F d f : Nat) (x1 x2 x3 : Int32) (c : Nat → Nat) (σ : mSg) (τ : mLg) :
    pL F d 125 (f + 9) 10 [(0, .inr (some (7, 0))), (1, .inl x1), (2, .inl x2), (3, .inl x3)] [] (c, σ, pr, τ) = (if ((4 * x1) + x3) < 0 ∨ 16 ≤ Int32.toNatClampNeg ((4 * x1) + x3) then none else (if 0 < (σ 12 1 (Int32.toNatClampNeg ((4 * x1) + x3))) then pL F d 125 f 23 [(0, .inr (some (7, 0))), (1, .inl x1), (2, .inl x2), (3, .inl x3)] [] (c, σ, pr, τ) else pL F d 125 f 39 [(0, .inr (some (7, 0))), (1, .inl x1), (2, .inl x2), (3, .inl x3)] [] (c, σ, pr, τ))) := id rfl
theorem T125_23 (F d f : Nat) (x1 x2 x3 : Int32) (c : Nat → Nat) (σ : mSg) (τ : mLg) :
    pL F d 125 (f + 14) 23 [(0, .inr (some (7, 0))), (1, .inl x1), (2, .inl x2), (3, .inl x3)] [] (c, σ, pr, τ) = (if ((4 * x1) + x3) < 0 ∨ 16 ≤ Int32.toNatClampNeg ((4 * x1) + x3) then none else (if ((4 * x1) + x3) < 0 ∨ 16 ≤ Int32.toNatClampNeg ((4 * x1) + x3) then none else some (.inl (some (.inl 0)), (c, (mq_up σ 12 1 (Int32.toNatClampNeg ((4 * x1) + x3)) ((σ 12 1 (Int32.toNatClampNeg ((4 * x1) + x3))) - 1)), pr, τ)))) := id rfl
theorem T125_39 (F d f : Nat) (x1 x2 x3 : Int32) (c : Nat → Nat) (σ : mSg) (τ : mLg) :
    pL F d 125 (f + 24) 39 [(0, .inr (some (7, 0))), (1, .inl x1), (2, .inl x2), (3, .inl x3)] [] (c, σ, pr, τ) = (if x2 < 0 ∨ 32 ≤ Int32.toNatClampNeg x2 then none else (if x2 < 0 ∨ 32 ≤ Int32.toNatClampNeg x2 then none else (if x2 < 0 ∨ 32 ≤ Int32.toNatClampNeg x2 then none else some (.inl (some (.inl 0)), (c, (mq_up (mq_up (mq_up (mq_up σ 13 37 (Int32.toNatClampNeg x2) 3) 13 40 (Int32.toNatClampNeg x2) x3) 13 41 (Int32.toNatClampNeg x2) ((mq_up (mq_up σ 13 37 (Int32.toNatClampNeg x2) 3) 13 40 (Int32.toNatClampNeg x2) x3) 7 0 27)) 7 0 27 (((mq_up (mq_up (mq_up σ 13 37 (Int32.toNatClampNeg x2) 3) 13 40 (Int32.toNatClampNeg x2) x3) 13 41 (Int32.toNatClampNeg x2) ((mq_up (mq_up σ 13 37 (Int32.toNatClampNeg x2) 3) 13 40 (Int32.toNatClampNeg x2) x3) 7 0 27)) 7 0 27) + 1)), pr, τ))))) := id rfl
/-! PartitionKernelModel.release(II)I -/
theorem T126 (F d : Nat) (x1 x2 : Int32) (c : Nat → Nat) (σ : mSg) (τ : mLg) :
    pX F (d + 1) 126 [.inr (some (7, 0)), .inl x1, .inl x2] (c, σ, pr, τ) = pL F d 126 F 0 [(0, .inr (some (7, 0))), (1, .inl x1), (2, .inl x2)] [] (c, σ, pr, τ) := id rfl
theorem T126_0 (F d f : Nat) (x1 x2 : Int32) (c : Nat → Nat) (σ : mSg) (τ : mLg) :
    pL F d 126 (f + 3) 0 [(0, .inr (some (7, 0))), (1, .inl x1), (2, .inl x2)] [] (c, σ, pr, τ) = mq_ks (pX F d 101 [.inl x2, .inl 4] (c, σ, pr, τ)) (fun w M => pL F d 126 f 5 [(0, .inr (some (7, 0))), (1, .inl x1), (2, .inl x2)] (mq_psh w []) M) := id rfl
theorem T126_5 (F d f : Nat) (x1 x2 x_0 : Int32) (c : Nat → Nat) (σ : mSg) (τ : mLg) :
    pL F d 126 (f + 1) 5 [(0, .inr (some (7, 0))), (1, .inl x1), (2, .inl x2)] [.inl x_0] (c, σ, pr, τ) = (if x_0 = 0 then pL F d 126 f 8 [(0, .inr (some (7, 0))), (1, .inl x1), (2, .inl x2)] [] (c, σ, pr, τ) else pL F d 126 f 10 [(0, .inr (some (7, 0))), (1, .inl x1), (2, .inl x2)] [] (c, σ, pr, τ)) := id rfl
theorem T126_8 (F d f : Nat) (x1 x2 : Int32) (c : Nat → Nat) (σ : mSg) (τ : mLg) :
    pL F d 126 (f + 2) 8 [(0, .inr (some (7, 0))), (1, .inl x1), (2, .inl x2)] [] (c, σ, pr, τ) = some (.inl (some (.inl 1)), (c, σ, pr, τ)) := id rfl
theorem T126_10 (F d f : Nat) (x1 x2 : Int32) (c : Nat → Nat) (σ : mSg) (τ : mLg) :
    pL F d 126 (f + 4) 10 [(0, .inr (some (7, 0))), (1, .inl x1), (2, .inl x2)] [] (c, σ, pr, τ) = pL F d 126 f 15 [(0, .inr (some (7, 0))), (1, .inl x1), (2, .inl x2), (3, .inl (-1)), (4, .inl 0)] [] (c, σ, pr, τ) := id rfl
theorem T126_15 (F d f : Nat) (x1 x2 x3 x4 : Int32) (c : Nat → Nat) (σ : mSg) (τ : mLg) :
    pL F d 126 (f + 6) 15 [(0, .inr (some (7, 0))), (1, .inl x1), (2, .inl x2), (3, .inl x3), (4, .inl x4)] [] (c, σ, pr, τ) = (if x1 < 0 ∨ 4 ≤ Int32.toNatClampNeg x1 then none else (if x4 < (σ 10 8 (Int32.toNatClampNeg x1)) then pL F d 126 f 26 [(0, .inr (some (7, 0))), (1, .inl x1), (2, .inl x2), (3, .inl x3), (4, .inl x4)] [] (c, σ, pr, τ) else pL F d 126 f 122 [(0, .inr (some (7, 0))), (1, .inl x1), (2, .inl x2), (3, .inl x3), (4, .inl x4)] [] (c, σ, pr, τ))) := id rfl
theorem T126_26 (F d f : Nat) (x1 x2 x3 x4 : Int32) (c : Nat → Nat) (σ : mSg) (τ : mLg) :
    pL F d 126 (f + 12) 26 [(0, .inr (some (7, 0))), (1, .inl x1), (2, .inl x2), (3, .inl x3), (4, .inl x4)] [] (c, σ, pr, τ) = (if ((8 * x1) + x4) < 0 ∨ 32 ≤ Int32.toNatClampNeg ((8 * x1) + x4) then none else (if (σ 13 37 (Int32.toNatClampNeg ((8 * x1) + x4))) = 3 then pL F d 126 f 46 [(0, .inr (some (7, 0))), (1, .inl x1), (2, .inl x2), (3, .inl x3), (4, .inl x4), (5, .inl ((8 * x1) + x4))] [] (c, σ, pr, τ) else pL F d 126 f 116 [(0, .inr (some (7, 0))), (1, .inl x1), (2, .inl x2), (3, .inl x3), (4, .inl x4), (5, .inl ((8 * x1) + x4))] [] (c, σ, pr, τ))) := id rfl
theorem T126_122 (F d f : Nat) (x1 x2 x3 x4 : Int32) (c : Nat → Nat) (σ : mSg) (τ : mLg) :
    pL F d 126 (f + 3) 122 [(0, .inr (some (7, 0))), (1, .inl x1), (2, .inl x2), (3, .inl x3), (4, .inl x4)] [] (c, σ, pr, τ) = (if x3 = (-1) then pL F d 126 f 134 [(0, .inr (some (7, 0))), (1, .inl x1), (2, .inl x2), (3, .inl x3), (4, .inl x4)] [] (c, σ, pr, τ) else pL F d 126 f 127 [(0, .inr (some (7, 0))), (1, .inl x1), (2, .inl x2), (3, .inl x3), (4, .inl x4)] [] (c, σ, pr, τ)) := id rfl
theorem T126_46 (F d f : Nat) (x1 x2 x3 x4 x5 : Int32) (c : Nat → Nat) (σ : mSg) (τ : mLg) :
    pL F d 126 (f + 6) 46 [(0, .inr (some (7, 0))), (1, .inl x1), (2, .inl x2), (3, .inl x3), (4, .inl x4), (5, .inl x5)] [] (c, σ, pr, τ) = (if x5 < 0 ∨ 32 ≤ Int32.toNatClampNeg x5 then none else (if (σ 13 40 (Int32.toNatClampNeg x5)) = x2 then pL F d 126 f 60 [(0, .inr (some (7, 0))), (1, .inl x1), (2, .inl x2), (3, .inl x3), (4, .inl x4), (5, .inl x5)] [] (c, σ, pr, τ) else pL F d 126 f 57 [(0, .inr (some (7, 0))), (1, .inl x1), (2, .inl x2), (3, .inl x3), (4, .inl x4), (5, .inl x5)] [] (c, σ, pr, τ))) := id rfl
theorem T126_116 (F d f : Nat) (x1 x2 x3 x4 x5 : Int32) (c : Nat → Nat) (σ : mSg) (τ : mLg) :
    pL F d 126 (f + 2) 116 [(0, .inr (some (7, 0))), (1, .inl x1), (2, .inl x2), (3, .inl x3), (4, .inl x4), (5, .inl x5)] [] (c, σ, pr, τ) = pL F d 126 f 15 [(0, .inr (some (7, 0))), (1, .inl x1), (2, .inl x2), (3, .inl x3), (4, .inl (x4 + 1)), (5, .inl x5)] [] (c, σ, pr, τ) := id rfl
theorem T126_134 (F d f : Nat) (x1 x2 x3 x4 : Int32) (c : Nat → Nat) (σ : mSg) (τ : mLg) :
    pL F d 126 (f + 10) 134 [(0, .inr (some (7, 0))), (1, .inl x1), (2, .inl x2), (3, .inl x3), (4, .inl x4)] [] (c, σ, pr, τ) = (if ((4 * x1) + x2) < 0 ∨ 16 ≤ Int32.toNatClampNeg ((4 * x1) + x2) then none else (if (σ 12 1 (Int32.toNatClampNeg ((4 * x1) + x2))) = 1000 then pL F d 126 f 150 [(0, .inr (some (7, 0))), (1, .inl x1), (2, .inl x2), (3, .inl x3), (4, .inl x4)] [] (c, σ, pr, τ) else pL F d 126 f 152 [(0, .inr (some (7, 0))), (1, .inl x1), (2, .inl x2), (3, .inl x3), (4, .inl x4)] [] (c, σ, pr, τ))) := id rfl
theorem T126_127 (F d f : Nat) (x1 x2 x3 x4 : Int32) (c : Nat → Nat) (σ : mSg) (τ : mLg) :
    pL F d 126 (f + 3) 127 [(0, .inr (some (7, 0))), (1, .inl x1), (2, .inl x2), (3, .inl x3), (4, .inl x4)] [] (c, σ, pr, τ) = mq_kv (pX F d 102 [.inr (some (7, 0)), .inl x3] (c, σ, pr, τ)) (fun w M => pL F d 126 f 132 [(0, .inr (some (7, 0))), (1, .inl x1), (2, .inl x2), (3, .inl x3), (4, .inl x4)] (mq_psh w []) M) := id rfl
theorem T126_60 (F d f : Nat) (x1 x2 x3 x4 x5 : Int32) (c : Nat → Nat) (σ : mSg) (τ : mLg) :
    pL F d 126 (f + 3) 60 [(0, .inr (some (7, 0))), (1, .inl x1), (2, .inl x2), (3, .inl x3), (4, .inl x4), (5, .inl x5)] [] (c, σ, pr, τ) = (if x3 = (-1) then pL F d 126 f 113 [(0, .inr (some (7, 0))), (1, .inl x1), (2, .inl x2), (3, .inl x3), (4, .inl x4), (5, .inl x5)] [] (c, σ, pr, τ) else pL F d 126 f 65 [(0, .inr (some (7, 0))), (1, .inl x1), (2, .inl x2), (3, .inl x3), (4, .inl x4), (5, .inl x5)] [] (c, σ, pr, τ)) := id rfl
theorem T126_57 (F d f : Nat) (x1 x2 x3 x4 x5 : Int32) (c : Nat → Nat) (σ : mSg) (τ : mLg) :
    pL F d 126 (f + 3) 57 [(0, .inr (some (7, 0))), (1, .inl x1), (2, .inl x2), (3, .inl x3), (4, .inl x4), (5, .inl x5)] [] (c, σ, pr, τ) = pL F d 126 f 15 [(0, .inr (some (7, 0))), (1, .inl x1), (2, .inl x2), (3, .inl x3), (4, .inl (x4 + 1)), (5, .inl x5)] [] (c, σ, pr, τ) := id rfl
theorem T126_15a (F d f : Nat) (x1 x2 x3 x4 x5 : Int32) (c : Nat → Nat) (σ : mSg) (τ : mLg) :
    pL F d 126 (f + 6) 15 [(0, .inr (some (7, 0))), (1, .inl x1), (2, .inl x2), (3, .inl x3), (4, .inl x4), (5, .inl x5)] [] (c, σ, pr, τ) = (if x1 < 0 ∨ 4 ≤ Int32.toNatClampNeg x1 then none else (if x4 < (σ 10 8 (Int32.toNatClampNeg x1)) then pL F d 126 f 26 [(0, .inr (some (7, 0))), (1, .inl x1), (2, .inl x2), (3, .inl x3), (4, .inl x4), (5, .inl x5)] [] (c, σ, pr, τ) else pL F d 126 f 122 [(0, .inr (some (7, 0))), (1, .inl x1), (2, .inl x2), (3, .inl x3), (4, .inl x4), (5, .inl x5)] [] (c, σ, pr, τ))) := id rfl
theorem T126_150 (F d f : Nat) (x1 x2 x3 x4 : Int32) (c : Nat → Nat) (σ : mSg) (τ : mLg) :
    pL F d 126 (f + 2) 150 [(0, .inr (some (7, 0))), (1, .inl x1), (2, .inl x2), (3, .inl x3), (4, .inl x4)] [] (c, σ, pr, τ) = some (.inl (some (.inl 1)), (c, σ, pr, τ)) := id rfl
theorem T126_152 (F d f : Nat) (x1 x2 x3 x4 : Int32) (c : Nat → Nat) (σ : mSg) (τ : mLg) :
    pL F d 126 (f + 14) 152 [(0, .inr (some (7, 0))), (1, .inl x1), (2, .inl x2), (3, .inl x3), (4, .inl x4)] [] (c, σ, pr, τ) = (if ((4 * x1) + x2) < 0 ∨ 16 ≤ Int32.toNatClampNeg ((4 * x1) + x2) then none else (if ((4 * x1) + x2) < 0 ∨ 16 ≤ Int32.toNatClampNeg ((4 * x1) + x2) then none else some (.inl (some (.inl 0)), (c, (mq_up σ 12 1 (Int32.toNatClampNeg ((4 * x1) + x2)) ((σ 12 1 (Int32.toNatClampNeg ((4 * x1) + x2))) + 1)), pr, τ)))) := id rfl
theorem T126_132 (F d f : Nat) (x1 x2 x3 x4 : Int32) (c : Nat → Nat) (σ : mSg) (τ : mLg) :
    pL F d 126 (f + 2) 132 [(0, .inr (some (7, 0))), (1, .inl x1), (2, .inl x2), (3, .inl x3), (4, .inl x4)] [] (c, σ, pr, τ) = some (.inl (some (.inl 0)), (c, σ, pr, τ)) := id rfl
theorem T126_113 (F d f : Nat) (x1 x2 x3 x4 x5 : Int32) (c : Nat → Nat) (σ : mSg) (τ : mLg) :
    pL F d 126 (f + 4) 113 [(0, .inr (some (7, 0))), (1, .inl x1), (2, .inl x2), (3, .inl x3), (4, .inl x4), (5, .inl x5)] [] (c, σ, pr, τ) = pL F d 126 f 15 [(0, .inr (some (7, 0))), (1, .inl x1), (2, .inl x2), (3, .inl x5), (4, .inl (x4 + 1)), (5, .inl x5)] [] (c, σ, pr, τ) := id rfl
theorem T126_65 (F d f : Nat) (x1 x2 x3 x4 x5 : Int32) (c : Nat → Nat) (σ : mSg) (τ : mLg) :
    pL F d 126 (f + 9) 65 [(0, .inr (some (7, 0))), (1, .inl x1), (2, .inl x2), (3, .inl x3), (4, .inl x4), (5, .inl x5)] [] (c, σ, pr, τ) = (if x5 < 0 ∨ 32 ≤ Int32.toNatClampNeg x5 then none else (if x3 < 0 ∨ 32 ≤ Int32.toNatClampNeg x3 then none else (if (σ 13 33 (Int32.toNatClampNeg x3)) < (σ 13 33 (Int32.toNatClampNeg x5)) then pL F d 126 f 113 [(0, .inr (some (7, 0))), (1, .inl x1), (2, .inl x2), (3, .inl x3), (4, .inl x4), (5, .inl x5)] [] (c, σ, pr, τ) else pL F d 126 f 81 [(0, .inr (some (7, 0))), (1, .inl x1), (2, .inl x2), (3, .inl x3), (4, .inl x4), (5, .inl x5)] [] (c, σ, pr, τ)))) := id rfl
theorem T126_26a (F d f : Nat) (x1 x2 x3 x4 x5 : Int32) (c : Nat → Nat) (σ : mSg) (τ : mLg) :
    pL F d 126 (f + 12) 26 [(0, .inr (some (7, 0))), (1, .inl x1), (2, .inl x2), (3, .inl x3), (4, .inl x4), (5, .inl x5)] [] (c, σ, pr, τ) = (if ((8 * x1) + x4) < 0 ∨ 32 ≤ Int32.toNatClampNeg ((8 * x1) + x4) then none else (if (σ 13 37 (Int32.toNatClampNeg ((8 * x1) + x4))) = 3 then pL F d 126 f 46 [(0, .inr (some (7, 0))), (1, .inl x1), (2, .inl x2), (3, .inl x3), (4, .inl x4), (5, .inl ((8 * x1) + x4))] [] (c, σ, pr, τ) else pL F d 126 f 116 [(0, .inr (some (7, 0))), (1, .inl x1), (2, .inl x2), (3, .inl x3), (4, .inl x4), (5, .inl ((8 * x1) + x4))] [] (c, σ, pr, τ))) := id rfl
theorem T126_122a (F d f : Nat) (x1 x2 x3 x4 x5 : Int32) (c : Nat → Nat) (σ : mSg) (τ : mLg) :
    pL F d 126 (f + 3) 122 [(0, .inr (some (7, 0))), (1, .inl x1), (2, .inl x2), (3, .inl x3), (4, .inl x4), (5, .inl x5)] [] (c, σ, pr, τ) = (if x3 = (-1) then pL F d 126 f 134 [(0, .inr (some (7, 0))), (1, .inl x1), (2, .inl x2), (3, .inl x3), (4, .inl x4), (5, .inl x5)] [] (c, σ, pr, τ) else pL F d 126 f 127 [(0, .inr (some (7, 0))), (1, .inl x1), (2, .inl x2), (3, .inl x3), (4, .inl x4), (5, .inl x5)] [] (c, σ, pr, τ)) := id rfl
theorem T126_81 (F d f : Nat) (x1 x2 x3 x4 x5 : Int32) (c : Nat → Nat) (σ : mSg) (τ : mLg) :
    pL F d 126 (f + 9) 81 [(0, .inr (some (7, 0))), (1, .inl x1), (2, .inl x2), (3, .inl x3), (4, .inl x4), (5, .inl x5)] [] (c, σ, pr, τ) = (if x5 < 0 ∨ 32 ≤ Int32.toNatClampNeg x5 then none else (if x3 < 0 ∨ 32 ≤ Int32.toNatClampNeg x3 then none else (if (σ 13 33 (Int32.toNatClampNeg x5)) = (σ 13 33 (Int32.toNatClampNeg x3)) then pL F d 126 f 97 [(0, .inr (some (7, 0))), (1, .inl x1), (2, .inl x2), (3, .inl x3), (4, .inl x4), (5, .inl x5)] [] (c, σ, pr, τ) else pL F d 126 f 116 [(0, .inr (some (7, 0))), (1, .inl x1), (2, .inl x2), (3, .inl x3), (4, .inl x4), (5, .inl x5)] [] (c, σ, pr, τ)))) := id rfl
theorem T126_134a (F d f : Nat) (x1 x2 x3 x4 x5 : Int32) (c : Nat → Nat) (σ : mSg) (τ : mLg) :
    pL F d 126 (f + 10) 134 [(0, .inr (some (7, 0))), (1, .inl x1), (2, .inl x2), (3, .inl x3), (4, .inl x4), (5, .inl x5)] [] (c, σ, pr, τ) = (if ((4 * x1) + x2) < 0 ∨ 16 ≤ Int32.toNatClampNeg ((4 * x1) + x2) then none else (if (σ 12 1 (Int32.toNatClampNeg ((4 * x1) + x2))) = 1000 then pL F d 126 f 150 [(0, .inr (some (7, 0))), (1, .inl x1), (2, .inl x2), (3, .inl x3), (4, .inl x4), (5, .inl x5)] [] (c, σ, pr, τ) else pL F d 126 f 152 [(0, .inr (some (7, 0))), (1, .inl x1), (2, .inl x2), (3, .inl x3), (4, .inl x4), (5, .inl x5)] [] (c, σ, pr, τ))) := id rfl
theorem T126_127a (F d f : Nat) (x1 x2 x3 x4 x5 : Int32) (c : Nat → Nat) (σ : mSg) (τ : mLg) :
    pL F d 126 (f + 3) 127 [(0, .inr (some (7, 0))), (1, .inl x1), (2, .inl x2), (3, .inl x3), (4, .inl x4), (5, .inl x5)] [] (c, σ, pr, τ) = mq_kv (pX F d 102 [.inr (some (7, 0)), .inl x3] (c, σ, pr, τ)) (fun w M => pL F d 126 f 132 [(0, .inr (some (7, 0))), (1, .inl x1), (2, .inl x2), (3, .inl x3), (4, .inl x4), (5, .inl x5)] (mq_psh w []) M) := id rfl
theorem T126_97 (F d f : Nat) (x1 x2 x3 x4 x5 : Int32) (c : Nat → Nat) (σ : mSg) (τ : mLg) :
    pL F d 126 (f + 9) 97 [(0, .inr (some (7, 0))), (1, .inl x1), (2, .inl x2), (3, .inl x3), (4, .inl x4), (5, .inl x5)] [] (c, σ, pr, τ) = (if x5 < 0 ∨ 32 ≤ Int32.toNatClampNeg x5 then none else (if x3 < 0 ∨ 32 ≤ Int32.toNatClampNeg x3 then none else (if (σ 13 41 (Int32.toNatClampNeg x5)) < (σ 13 41 (Int32.toNatClampNeg x3)) then pL F d 126 f 113 [(0, .inr (some (7, 0))), (1, .inl x1), (2, .inl x2), (3, .inl x3), (4, .inl x4), (5, .inl x5)] [] (c, σ, pr, τ) else pL F d 126 f 116 [(0, .inr (some (7, 0))), (1, .inl x1), (2, .inl x2), (3, .inl x3), (4, .inl x4), (5, .inl x5)] [] (c, σ, pr, τ)))) := id rfl
theorem T126_150a (F d f : Nat) (x1 x2 x3 x4 x5 : Int32) (c : Nat → Nat) (σ : mSg) (τ : mLg) :
    pL F d 126 (f + 2) 150 [(0, .inr (some (7, 0))), (1, .inl x1), (2, .inl x2), (3, .inl x3), (4, .inl x4), (5, .inl x5)] [] (c, σ, pr, τ) = some (.inl (some (.inl 1)), (c, σ, pr, τ)) := id rfl
theorem T126_152a (F d f : Nat) (x1 x2 x3 x4 x5 : Int32) (c : Nat → Nat) (σ : mSg) (τ : mLg) :
    pL F d 126 (f + 14) 152 [(0, .inr (some (7, 0))), (1, .inl x1), (2, .inl x2), (3, .inl x3), (4, .inl x4), (5, .inl x5)] [] (c, σ, pr, τ) = (if ((4 * x1) + x2) < 0 ∨ 16 ≤ Int32.toNatClampNeg ((4 * x1) + x2) then none else (if ((4 * x1) + x2) < 0 ∨ 16 ≤ Int32.toNatClampNeg ((4 * x1) + x2) then none else some (.inl (some (.inl 0)), (c, (mq_up σ 12 1 (Int32.toNatClampNeg ((4 * x1) + x2)) ((σ 12 1 (Int32.toNatClampNeg ((4 * x1) + x2))) + 1)), pr, τ)))) := id rfl
theorem T126_132a (F d f : Nat) (x1 x2 x3 x4 x5 : Int32) (c : Nat → Nat) (σ : mSg) (τ : mLg) :
    pL F d 126 (f + 2) 132 [(0, .inr (some (7, 0))), (1, .inl x1), (2, .inl x2), (3, .inl x3), (4, .inl x4), (5, .inl x5)] [] (c, σ, pr, τ) = some (.inl (some (.inl 0)), (c, σ, pr, τ)) := id rfl
