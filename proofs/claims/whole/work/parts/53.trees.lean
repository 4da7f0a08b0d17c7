/-! Trees of the methods, by program (wip/whole/tools/sx.py). -/
/-! PartitionKernel.window(II)V -/
theorem T71 (F d : Nat) (x1 x2 : Int32) (c : Nat → Nat) (σ : mSg) (τ : mLg) :
    pX F (d + 1) 71 [.inr (some (6, 0)), .inl x1, .inl x2] (c, σ, pr, τ) = pL F d 71 F 0 [(0, .inr (some (6, 0))), (1, .inl x1), (2, .inl x2)] [] (c, σ, pr, τ) := id rfl
theorem T71_0 (F d f : Nat) (x1 x2 : Int32) (c : Nat → Nat) (σ : mSg) (τ : mLg) :
    pL F d 71 (f + 2) 0 [(0, .inr (some (6, 0))), (1, .inl x1), (2, .inl x2)] [] (c, σ, pr, τ) = mq_ks (pX F d 86 [.inl x1] (c, σ, pr, τ)) (fun w M => pL F d 71 f 4 [(0, .inr (some (6, 0))), (1, .inl x1), (2, .inl x2)] (mq_psh w []) M) := id rfl
theorem T71_4 (F d f : Nat) (x1 x2 x_0 : Int32) (c : Nat → Nat) (σ : mSg) (τ : mLg) :
    pL F d 71 (f + 1) 4 [(0, .inr (some (6, 0))), (1, .inl x1), (2, .inl x2)] [.inl x_0] (c, σ, pr, τ) = (if x_0 = 0 then pL F d 71 f 7 [(0, .inr (some (6, 0))), (1, .inl x1), (2, .inl x2)] [] (c, σ, pr, τ) else pL F d 71 f 17 [(0, .inr (some (6, 0))), (1, .inl x1), (2, .inl x2)] [] (c, σ, pr, τ)) := id rfl
theorem T71_7 (F d f : Nat) (x1 x2 : Int32) (c : Nat → Nat) (σ : mSg) (τ : mLg) :
    pL F d 71 (f + 1) 7 [(0, .inr (some (6, 0))), (1, .inl x1), (2, .inl x2)] [] (c, σ, pr, τ) = some (.inr 50, (c, σ, pr, τ)) := id rfl
theorem T71_17 (F d f : Nat) (x1 x2 : Int32) (c : Nat → Nat) (σ : mSg) (τ : mLg) :
    pL F d 71 (f + 3) 17 [(0, .inr (some (6, 0))), (1, .inl x1), (2, .inl x2)] [] (c, σ, pr, τ) = (if x2 < 1 then pL F d 71 f 28 [(0, .inr (some (6, 0))), (1, .inl x1), (2, .inl x2)] [] (c, σ, pr, τ) else pL F d 71 f 22 [(0, .inr (some (6, 0))), (1, .inl x1), (2, .inl x2)] [] (c, σ, pr, τ)) := id rfl
theorem T71_28 (F d f : Nat) (x1 x2 : Int32) (c : Nat → Nat) (σ : mSg) (τ : mLg) :
    pL F d 71 (f + 1) 28 [(0, .inr (some (6, 0))), (1, .inl x1), (2, .inl x2)] [] (c, σ, pr, τ) = some (.inr 51, (c, σ, pr, τ)) := id rfl
theorem T71_22 (F d f : Nat) (x1 x2 : Int32) (c : Nat → Nat) (σ : mSg) (τ : mLg) :
    pL F d 71 (f + 3) 22 [(0, .inr (some (6, 0))), (1, .inl x1), (2, .inl x2)] [] (c, σ, pr, τ) = (if 100 < x2 then pL F d 71 f 28 [(0, .inr (some (6, 0))), (1, .inl x1), (2, .inl x2)] [] (c, σ, pr, τ) else pL F d 71 f 38 [(0, .inr (some (6, 0))), (1, .inl x1), (2, .inl x2)] [] (c, σ, pr, τ)) := id rfl
theorem T71_38 (F d f : Nat) (x1 x2 : Int32) (c : Nat → Nat) (σ : mSg) (τ : mLg) :
    pL F d 71 (f + 3) 38 [(0, .inr (some (6, 0))), (1, .inl x1), (2, .inl x2)] [] (c, σ, pr, τ) = (if (σ 6 0 7) = 0 then pL F d 71 f 45 [(0, .inr (some (6, 0))), (1, .inl x1), (2, .inl x2)] [] (c, σ, pr, τ) else pL F d 71 f 57 [(0, .inr (some (6, 0))), (1, .inl x1), (2, .inl x2)] [] (c, σ, pr, τ)) := id rfl
theorem T71_45 (F d f : Nat) (x1 x2 : Int32) (c : Nat → Nat) (σ : mSg) (τ : mLg) :
    pL F d 71 (f + 5) 45 [(0, .inr (some (6, 0))), (1, .inl x1), (2, .inl x2)] [] (c, σ, pr, τ) = mq_kv (pX F d 12 [.inr (some (2, 0)), .inl x1, .inl x2] (c, σ, pr, τ)) (fun w M => pL F d 71 f 54 [(0, .inr (some (6, 0))), (1, .inl x1), (2, .inl x2)] (mq_psh w []) M) := id rfl
theorem T71_57 (F d f : Nat) (x1 x2 : Int32) (c : Nat → Nat) (σ : mSg) (τ : mLg) :
    pL F d 71 (f + 1) 57 [(0, .inr (some (6, 0))), (1, .inl x1), (2, .inl x2)] [] (c, σ, pr, τ) = some (.inr 52, (c, σ, pr, τ)) := id rfl
theorem T71_54 (F d f : Nat) (x1 x2 x_0 : Int32) (c : Nat → Nat) (σ : mSg) (τ : mLg) :
    pL F d 71 (f + 1) 54 [(0, .inr (some (6, 0))), (1, .inl x1), (2, .inl x2)] [.inl x_0] (c, σ, pr, τ) = (if x_0 = 0 then pL F d 71 f 57 [(0, .inr (some (6, 0))), (1, .inl x1), (2, .inl x2)] [] (c, σ, pr, τ) else pL F d 71 f 67 [(0, .inr (some (6, 0))), (1, .inl x1), (2, .inl x2)] [] (c, σ, pr, τ)) := id rfl
theorem T71_67 (F d f : Nat) (x1 x2 : Int32) (c : Nat → Nat) (σ : mSg) (τ : mLg) :
    pL F d 71 (f + 1) 67 [(0, .inr (some (6, 0))), (1, .inl x1), (2, .inl x2)] [] (c, σ, pr, τ) = some (.inl (none), (c, σ, pr, τ)) := id rfl
/-! PartitionKernel.process(IIIII)I -/
theorem T72 (F d : Nat) (x1 x2 x3 x4 x5 : Int32) (c : Nat → Nat) (σ : mSg) (τ : mLg) :
    pX F (d + 1) 72 [.inr (some (6, 0)), .inl x1, .inl x2, .inl x3, .inl x4, .inl x5] (c, σ, pr, τ) = pL F d 72 F 0 [(0, .inr (some (6, 0))), (1, .inl x1), (2, .inl x2), (3, .inl x3), (4, .inl x4), (5, .inl x5)] [] (c, σ, pr, τ) := id rfl
theorem T72_0 (F d f : Nat) (x1 x2 x3 x4 x5 : Int32) (c : Nat → Nat) (σ : mSg) (τ : mLg) :
    pL F d 72 (f + 3) 0 [(0, .inr (some (6, 0))), (1, .inl x1), (2, .inl x2), (3, .inl x3), (4, .inl x4), (5, .inl x5)] [] (c, σ, pr, τ) = mq_kv (pX F d 89 [.inr (some (6, 0)), .inl x1] (c, σ, pr, τ)) (fun w M => pL F d 72 f 5 [(0, .inr (some (6, 0))), (1, .inl x1), (2, .inl x2), (3, .inl x3), (4, .inl x4), (5, .inl x5)] (mq_psh w []) M) := id rfl
theorem T72_5 (F d f : Nat) (x1 x2 x3 x4 x5 : Int32) (c : Nat → Nat) (σ : mSg) (τ : mLg) :
    pL F d 72 (f + 4) 5 [(0, .inr (some (6, 0))), (1, .inl x1), (2, .inl x2), (3, .inl x3), (4, .inl x4), (5, .inl x5)] [.inr (.inl none)] (c, σ, pr, τ) = some (.inr 50, (c, σ, pr, τ)) := id rfl
theorem T72_5a (F d f r_0 : Nat) (x1 x2 x3 x4 x5 : Int32) (c : Nat → Nat) (σ : mSg) (τ : mLg) :
    pL F d 72 (f + 5) 5 [(0, .inr (some (6, 0))), (1, .inl x1), (2, .inl x2), (3, .inl x3), (4, .inl x4), (5, .inl x5)] [.inr (.inl (some (4, r_0)))] (c, σ, pr, τ) = mq_ks (pX F d 87 [.inl x3] (c, σ, pr, τ)) (fun w M => pL F d 72 f 26 [(0, .inr (some (6, 0))), (1, .inl x1), (2, .inl x2), (3, .inl x3), (4, .inl x4), (5, .inl x5), (6, .inr (some (4, r_0)))] (mq_psh w []) M) := id rfl
theorem T72_26 (F d f r6 : Nat) (x1 x2 x3 x4 x5 x_0 : Int32) (c : Nat → Nat) (σ : mSg) (τ : mLg) :
    pL F d 72 (f + 1) 26 [(0, .inr (some (6, 0))), (1, .inl x1), (2, .inl x2), (3, .inl x3), (4, .inl x4), (5, .inl x5), (6, .inr (some (4, r6)))] [.inl x_0] (c, σ, pr, τ) = (if x_0 = 0 then pL F d 72 f 45 [(0, .inr (some (6, 0))), (1, .inl x1), (2, .inl x2), (3, .inl x3), (4, .inl x4), (5, .inl x5), (6, .inr (some (4, r6)))] [] (c, σ, pr, τ) else pL F d 72 f 29 [(0, .inr (some (6, 0))), (1, .inl x1), (2, .inl x2), (3, .inl x3), (4, .inl x4), (5, .inl x5), (6, .inr (some (4, r6)))] [] (c, σ, pr, τ)) := id rfl
theorem T72_45 (F d f r6 : Nat) (x1 x2 x3 x4 x5 : Int32) (c : Nat → Nat) (σ : mSg) (τ : mLg) :
    pL F d 72 (f + 1) 45 [(0, .inr (some (6, 0))), (1, .inl x1), (2, .inl x2), (3, .inl x3), (4, .inl x4), (5, .inl x5), (6, .inr (some (4, r6)))] [] (c, σ, pr, τ) = some (.inr 51, (c, σ, pr, τ)) := id rfl
theorem T72_29 (F d f r6 : Nat) (x1 x2 x3 x4 x5 : Int32) (c : Nat → Nat) (σ : mSg) (τ : mLg) :
    pL F d 72 (f + 2) 29 [(0, .inr (some (6, 0))), (1, .inl x1), (2, .inl x2), (3, .inl x3), (4, .inl x4), (5, .inl x5), (6, .inr (some (4, r6)))] [] (c, σ, pr, τ) = mq_ks (pX F d 88 [.inl x4] (c, σ, pr, τ)) (fun w M => pL F d 72 f 34 [(0, .inr (some (6, 0))), (1, .inl x1), (2, .inl x2), (3, .inl x3), (4, .inl x4), (5, .inl x5), (6, .inr (some (4, r6)))] (mq_psh w []) M) := id rfl
theorem T72_34 (F d f r6 : Nat) (x1 x2 x3 x4 x5 x_0 : Int32) (c : Nat → Nat) (σ : mSg) (τ : mLg) :
    pL F d 72 (f + 1) 34 [(0, .inr (some (6, 0))), (1, .inl x1), (2, .inl x2), (3, .inl x3), (4, .inl x4), (5, .inl x5), (6, .inr (some (4, r6)))] [.inl x_0] (c, σ, pr, τ) = (if x_0 = 0 then pL F d 72 f 45 [(0, .inr (some (6, 0))), (1, .inl x1), (2, .inl x2), (3, .inl x3), (4, .inl x4), (5, .inl x5), (6, .inr (some (4, r6)))] [] (c, σ, pr, τ) else pL F d 72 f 37 [(0, .inr (some (6, 0))), (1, .inl x1), (2, .inl x2), (3, .inl x3), (4, .inl x4), (5, .inl x5), (6, .inr (some (4, r6)))] [] (c, σ, pr, τ)) := id rfl
theorem T72_37 (F d f r6 : Nat) (x1 x2 x3 x4 x5 : Int32) (c : Nat → Nat) (σ : mSg) (τ : mLg) :
    pL F d 72 (f + 2) 37 [(0, .inr (some (6, 0))), (1, .inl x1), (2, .inl x2), (3, .inl x3), (4, .inl x4), (5, .inl x5), (6, .inr (some (4, r6)))] [] (c, σ, pr, τ) = mq_ks (pX F d 88 [.inl x5] (c, σ, pr, τ)) (fun w M => pL F d 72 f 42 [(0, .inr (some (6, 0))), (1, .inl x1), (2, .inl x2), (3, .inl x3), (4, .inl x4), (5, .inl x5), (6, .inr (some (4, r6)))] (mq_psh w []) M) := id rfl
theorem T72_42 (F d f r6 : Nat) (x1 x2 x3 x4 x5 x_0 : Int32) (c : Nat → Nat) (σ : mSg) (τ : mLg) :
    pL F d 72 (f + 1) 42 [(0, .inr (some (6, 0))), (1, .inl x1), (2, .inl x2), (3, .inl x3), (4, .inl x4), (5, .inl x5), (6, .inr (some (4, r6)))] [.inl x_0] (c, σ, pr, τ) = (if x_0 = 0 then pL F d 72 f 45 [(0, .inr (some (6, 0))), (1, .inl x1), (2, .inl x2), (3, .inl x3), (4, .inl x4), (5, .inl x5), (6, .inr (some (4, r6)))] [] (c, σ, pr, τ) else pL F d 72 f 55 [(0, .inr (some (6, 0))), (1, .inl x1), (2, .inl x2), (3, .inl x3), (4, .inl x4), (5, .inl x5), (6, .inr (some (4, r6)))] [] (c, σ, pr, τ)) := id rfl
theorem T72_55 (F d f r6 : Nat) (x1 x2 x3 x4 x5 : Int32) (c : Nat → Nat) (σ : mSg) (τ : mLg) :
    pL F d 72 (f + 3) 55 [(0, .inr (some (6, 0))), (1, .inl x1), (2, .inl x2), (3, .inl x3), (4, .inl x4), (5, .inl x5), (6, .inr (some (4, r6)))] [] (c, σ, pr, τ) = (if (σ 6 0 7) = 0 then pL F d 72 f 66 [(0, .inr (some (6, 0))), (1, .inl x1), (2, .inl x2), (3, .inl x3), (4, .inl x4), (5, .inl x5), (6, .inr (some (4, r6)))] [] (c, σ, pr, τ) else pL F d 72 f 62 [(0, .inr (some (6, 0))), (1, .inl x1), (2, .inl x2), (3, .inl x3), (4, .inl x4), (5, .inl x5), (6, .inr (some (4, r6)))] [] (c, σ, pr, τ)) := id rfl
theorem T72_66 (F d f r6 : Nat) (x1 x2 x3 x4 x5 : Int32) (c : Nat → Nat) (σ : mSg) (τ : mLg) :
    pL F d 72 (f + 6) 66 [(0, .inr (some (6, 0))), (1, .inl x1), (2, .inl x2), (3, .inl x3), (4, .inl x4), (5, .inl x5), (6, .inr (some (4, r6)))] [] (c, σ, pr, τ) = mq_kv (pX F d 23 [.inr (some (4, r6)), .inl x2, .inl x3, .inl x4, .inl x5] (c, σ, pr, τ)) (fun w M => pL F d 72 f 77 [(0, .inr (some (6, 0))), (1, .inl x1), (2, .inl x2), (3, .inl x3), (4, .inl x4), (5, .inl x5), (6, .inr (some (4, r6)))] (mq_psh w []) M) := id rfl
theorem T72_62 (F d f r6 : Nat) (x1 x2 x3 x4 x5 : Int32) (c : Nat → Nat) (σ : mSg) (τ : mLg) :
    pL F d 72 (f + 7) 62 [(0, .inr (some (6, 0))), (1, .inl x1), (2, .inl x2), (3, .inl x3), (4, .inl x4), (5, .inl x5), (6, .inr (some (4, r6)))] [] (c, σ, pr, τ) = some (.inr 52, (c, σ, pr, τ)) := id rfl
theorem T72_77 (F d f r6 : Nat) (x1 x2 x3 x4 x5 x_0 : Int32) (c : Nat → Nat) (σ : mSg) (τ : mLg) :
    pL F d 72 (f + 4) 77 [(0, .inr (some (6, 0))), (1, .inl x1), (2, .inl x2), (3, .inl x3), (4, .inl x4), (5, .inl x5), (6, .inr (some (4, r6)))] [.inl x_0] (c, σ, pr, τ) = (if x_0 = (-1) then pL F d 72 f 85 [(0, .inr (some (6, 0))), (1, .inl x1), (2, .inl x2), (3, .inl x3), (4, .inl x4), (5, .inl x5), (6, .inr (some (4, r6))), (7, .inl x_0)] [] (c, σ, pr, τ) else pL F d 72 f 95 [(0, .inr (some (6, 0))), (1, .inl x1), (2, .inl x2), (3, .inl x3), (4, .inl x4), (5, .inl x5), (6, .inr (some (4, r6))), (7, .inl x_0)] [] (c, σ, pr, τ)) := id rfl
theorem T72_85 (F d f r6 : Nat) (x1 x2 x3 x4 x5 x7 : Int32) (c : Nat → Nat) (σ : mSg) (τ : mLg) :
    pL F d 72 (f + 1) 85 [(0, .inr (some (6, 0))), (1, .inl x1), (2, .inl x2), (3, .inl x3), (4, .inl x4), (5, .inl x5), (6, .inr (some (4, r6))), (7, .inl x7)] [] (c, σ, pr, τ) = some (.inr 52, (c, σ, pr, τ)) := id rfl
theorem T72_95 (F d f r6 : Nat) (x1 x2 x3 x4 x5 x7 : Int32) (c : Nat → Nat) (σ : mSg) (τ : mLg) :
    pL F d 72 (f + 2) 95 [(0, .inr (some (6, 0))), (1, .inl x1), (2, .inl x2), (3, .inl x3), (4, .inl x4), (5, .inl x5), (6, .inr (some (4, r6))), (7, .inl x7)] [] (c, σ, pr, τ) = some (.inl (some (.inl x7)), (c, σ, pr, τ)) := id rfl
/-! PartitionKernel.channel(ZIII)I -/
theorem T73 (F d : Nat) (x1 x2 x3 x4 : Int32) (c : Nat → Nat) (σ : mSg) (τ : mLg) :
    pX F (d + 1) 73 [.inr (some (6, 0)), .inl x1, .inl x2, .inl x3, .inl x4] (c, σ, pr, τ) = pL F d 73 F 0 [(0, .inr (some (6, 0))), (1, .inl x1), (2, .inl x2), (3, .inl x3), (4, .inl x4)] [] (c, σ, pr, τ) := id rfl
theorem T73_0 (F d f : Nat) (x1 x2 x3 x4 : Int32) (c : Nat → Nat) (σ : mSg) (τ : mLg) :
    pL F d 73 (f + 2) 0 [(0, .inr (some (6, 0))), (1, .inl x1), (2, .inl x2), (3, .inl x3), (4, .inl x4)] [] (c, σ, pr, τ) = mq_ks (pX F d 86 [.inl x2] (c, σ, pr, τ)) (fun w M => pL F d 73 f 4 [(0, .inr (some (6, 0))), (1, .inl x1), (2, .inl x2), (3, .inl x3), (4, .inl x4)] (mq_psh w []) M) := id rfl
theorem T73_4 (F d f : Nat) (x1 x2 x3 x4 x_0 : Int32) (c : Nat → Nat) (σ : mSg) (τ : mLg) :
    pL F d 73 (f + 1) 4 [(0, .inr (some (6, 0))), (1, .inl x1), (2, .inl x2), (3, .inl x3), (4, .inl x4)] [.inl x_0] (c, σ, pr, τ) = (if x_0 = 0 then pL F d 73 f 14 [(0, .inr (some (6, 0))), (1, .inl x1), (2, .inl x2), (3, .inl x3), (4, .inl x4)] [] (c, σ, pr, τ) else pL F d 73 f 7 [(0, .inr (some (6, 0))), (1, .inl x1), (2, .inl x2), (3, .inl x3), (4, .inl x4)] [] (c, σ, pr, τ)) := id rfl
theorem T73_14 (F d f : Nat) (x1 x2 x3 x4 : Int32) (c : Nat → Nat) (σ : mSg) (τ : mLg) :
    pL F d 73 (f + 1) 14 [(0, .inr (some (6, 0))), (1, .inl x1), (2, .inl x2), (3, .inl x3), (4, .inl x4)] [] (c, σ, pr, τ) = some (.inr 50, (c, σ, pr, τ)) := id rfl
theorem T73_7 (F d f : Nat) (x1 x2 x3 x4 : Int32) (c : Nat → Nat) (σ : mSg) (τ : mLg) :
    pL F d 73 (f + 2) 7 [(0, .inr (some (6, 0))), (1, .inl x1), (2, .inl x2), (3, .inl x3), (4, .inl x4)] [] (c, σ, pr, τ) = mq_ks (pX F d 86 [.inl x3] (c, σ, pr, τ)) (fun w M => pL F d 73 f 11 [(0, .inr (some (6, 0))), (1, .inl x1), (2, .inl x2), (3, .inl x3), (4, .inl x4)] (mq_psh w []) M) := id rfl
theorem T73_11 (F d f : Nat) (x1 x2 x3 x4 x_0 : Int32) (c : Nat → Nat) (σ : mSg) (τ : mLg) :
    pL F d 73 (f + 1) 11 [(0, .inr (some (6, 0))), (1, .inl x1), (2, .inl x2), (3, .inl x3), (4, .inl x4)] [.inl x_0] (c, σ, pr, τ) = (if x_0 = 0 then pL F d 73 f 14 [(0, .inr (some (6, 0))), (1, .inl x1), (2, .inl x2), (3, .inl x3), (4, .inl x4)] [] (c, σ, pr, τ) else pL F d 73 f 24 [(0, .inr (some (6, 0))), (1, .inl x1), (2, .inl x2), (3, .inl x3), (4, .inl x4)] [] (c, σ, pr, τ)) := id rfl
theorem T73_24 (F d f : Nat) (x1 x2 x3 x4 : Int32) (c : Nat → Nat) (σ : mSg) (τ : mLg) :
    pL F d 73 (f + 2) 24 [(0, .inr (some (6, 0))), (1, .inl x1), (2, .inl x2), (3, .inl x3), (4, .inl x4)] [] (c, σ, pr, τ) = (if x1 = 0 then pL F d 73 f 44 [(0, .inr (some (6, 0))), (1, .inl x1), (2, .inl x2), (3, .inl x3), (4, .inl x4)] [] (c, σ, pr, τ) else pL F d 73 f 28 [(0, .inr (some (6, 0))), (1, .inl x1), (2, .inl x2), (3, .inl x3), (4, .inl x4)] [] (c, σ, pr, τ)) := id rfl
theorem T73_44 (F d f : Nat) (x1 x2 x3 x4 : Int32) (c : Nat → Nat) (σ : mSg) (τ : mLg) :
    pL F d 73 (f + 2) 44 [(0, .inr (some (6, 0))), (1, .inl x1), (2, .inl x2), (3, .inl x3), (4, .inl x4)] [] (c, σ, pr, τ) = mq_ks (pX F d 88 [.inl x4] (c, σ, pr, τ)) (fun w M => pL F d 73 f 49 [(0, .inr (some (6, 0))), (1, .inl x1), (2, .inl x2), (3, .inl x3), (4, .inl x4)] (mq_psh w []) M) := id rfl
theorem T73_28 (F d f : Nat) (x1 x2 x3 x4 : Int32) (c : Nat → Nat) (σ : mSg) (τ : mLg) :
    pL F d 73 (f + 3) 28 [(0, .inr (some (6, 0))), (1, .inl x1), (2, .inl x2), (3, .inl x3), (4, .inl x4)] [] (c, σ, pr, τ) = (if x4 < 1 then pL F d 73 f 52 [(0, .inr (some (6, 0))), (1, .inl x1), (2, .inl x2), (3, .inl x3), (4, .inl x4)] [] (c, σ, pr, τ) else pL F d 73 f 34 [(0, .inr (some (6, 0))), (1, .inl x1), (2, .inl x2), (3, .inl x3), (4, .inl x4)] [] (c, σ, pr, τ)) := id rfl
theorem T73_49 (F d f : Nat) (x1 x2 x3 x4 x_0 : Int32) (c : Nat → Nat) (σ : mSg) (τ : mLg) :
    pL F d 73 (f + 1) 49 [(0, .inr (some (6, 0))), (1, .inl x1), (2, .inl x2), (3, .inl x3), (4, .inl x4)] [.inl x_0] (c, σ, pr, τ) = (if x_0 = 0 then pL F d 73 f 52 [(0, .inr (some (6, 0))), (1, .inl x1), (2, .inl x2), (3, .inl x3), (4, .inl x4)] [] (c, σ, pr, τ) else pL F d 73 f 62 [(0, .inr (some (6, 0))), (1, .inl x1), (2, .inl x2), (3, .inl x3), (4, .inl x4)] [] (c, σ, pr, τ)) := id rfl
theorem T73_52 (F d f : Nat) (x1 x2 x3 x4 : Int32) (c : Nat → Nat) (σ : mSg) (τ : mLg) :
    pL F d 73 (f + 1) 52 [(0, .inr (some (6, 0))), (1, .inl x1), (2, .inl x2), (3, .inl x3), (4, .inl x4)] [] (c, σ, pr, τ) = some (.inr 51, (c, σ, pr, τ)) := id rfl
theorem T73_34 (F d f : Nat) (x1 x2 x3 x4 : Int32) (c : Nat → Nat) (σ : mSg) (τ : mLg) :
    pL F d 73 (f + 3) 34 [(0, .inr (some (6, 0))), (1, .inl x1), (2, .inl x2), (3, .inl x3), (4, .inl x4)] [] (c, σ, pr, τ) = (if 8 < x4 then pL F d 73 f 41 [(0, .inr (some (6, 0))), (1, .inl x1), (2, .inl x2), (3, .inl x3), (4, .inl x4)] [] (c, σ, pr, τ) else pL F d 73 f 62 [(0, .inr (some (6, 0))), (1, .inl x1), (2, .inl x2), (3, .inl x3), (4, .inl x4)] [] (c, σ, pr, τ)) := id rfl
theorem T73_62 (F d f : Nat) (x1 x2 x3 x4 : Int32) (c : Nat → Nat) (σ : mSg) (τ : mLg) :
    pL F d 73 (f + 3) 62 [(0, .inr (some (6, 0))), (1, .inl x1), (2, .inl x2), (3, .inl x3), (4, .inl x4)] [] (c, σ, pr, τ) = (if (σ 6 0 7) = 0 then pL F d 73 f 69 [(0, .inr (some (6, 0))), (1, .inl x1), (2, .inl x2), (3, .inl x3), (4, .inl x4)] [] (c, σ, pr, τ) else pL F d 73 f 78 [(0, .inr (some (6, 0))), (1, .inl x1), (2, .inl x2), (3, .inl x3), (4, .inl x4)] [] (c, σ, pr, τ)) := id rfl
theorem T73_41 (F d f : Nat) (x1 x2 x3 x4 : Int32) (c : Nat → Nat) (σ : mSg) (τ : mLg) :
    pL F d 73 (f + 2) 41 [(0, .inr (some (6, 0))), (1, .inl x1), (2, .inl x2), (3, .inl x3), (4, .inl x4)] [] (c, σ, pr, τ) = some (.inr 51, (c, σ, pr, τ)) := id rfl
theorem T73_69 (F d f : Nat) (x1 x2 x3 x4 : Int32) (c : Nat → Nat) (σ : mSg) (τ : mLg) :
    pL F d 73 (f + 4) 69 [(0, .inr (some (6, 0))), (1, .inl x1), (2, .inl x2), (3, .inl x3), (4, .inl x4)] [] (c, σ, pr, τ) = (if (σ 6 0 4) < 8 then pL F d 73 f 88 [(0, .inr (some (6, 0))), (1, .inl x1), (2, .inl x2), (3, .inl x3), (4, .inl x4)] [] (c, σ, pr, τ) else pL F d 73 f 78 [(0, .inr (some (6, 0))), (1, .inl x1), (2, .inl x2), (3, .inl x3), (4, .inl x4)] [] (c, σ, pr, τ)) := id rfl
theorem T73_78 (F d f : Nat) (x1 x2 x3 x4 : Int32) (c : Nat → Nat) (σ : mSg) (τ : mLg) :
    pL F d 73 (f + 1) 78 [(0, .inr (some (6, 0))), (1, .inl x1), (2, .inl x2), (3, .inl x3), (4, .inl x4)] [] (c, σ, pr, τ) = some (.inr 52, (c, σ, pr, τ)) := id rfl
theorem T73_88 (F d f : Nat) (x1 x2 x3 x4 : Int32) (c : Nat → Nat) (σ : mSg) (τ : mLg) :
    pL F d 73 (f + 10) 88 [(0, .inr (some (6, 0))), (1, .inl x1), (2, .inl x2), (3, .inl x3), (4, .inl x4)] [] (c, σ, pr, τ) = (if (σ 6 0 4) < 0 ∨ 8 ≤ Int32.toNatClampNeg (σ 6 0 4) then none else mq_kv (pX F d 2 [.inr (some (0, (Int32.toNatClampNeg (σ 6 0 4)))), .inl x1, .inl x2, .inl x3, .inl x4] (c, σ, pr, τ)) (fun w M => pL F d 73 f 105 [(0, .inr (some (6, 0))), (1, .inl x1), (2, .inl x2), (3, .inl x3), (4, .inl x4)] (mq_psh w []) M)) := id rfl
theorem T73_105 (F d f : Nat) (x1 x2 x3 x4 : Int32) (c : Nat → Nat) (σ : mSg) (τ : mLg) :
    pL F d 73 (f + 11) 105 [(0, .inr (some (6, 0))), (1, .inl x1), (2, .inl x2), (3, .inl x3), (4, .inl x4)] [] (c, σ, pr, τ) = some (.inl (some (.inl (((mq_up σ 6 0 4 ((σ 6 0 4) + 1)) 6 0 4) - 1))), (c, (mq_up σ 6 0 4 ((σ 6 0 4) + 1)), pr, τ)) := id rfl
/-! PartitionKernel.action(III)V -/
theorem T74 (F d : Nat) (x1 x2 x3 : Int32) (c : Nat → Nat) (σ : mSg) (τ : mLg) :
    pX F (d + 1) 74 [.inr (some (6, 0)), .inl x1, .inl x2, .inl x3] (c, σ, pr, τ) = pL F d 74 F 0 [(0, .inr (some (6, 0))), (1, .inl x1), (2, .inl x2), (3, .inl x3)] [] (c, σ, pr, τ) := id rfl
theorem T74_0 (F d f : Nat) (x1 x2 x3 : Int32) (c : Nat → Nat) (σ : mSg) (τ : mLg) :
    pL F d 74 (f + 3) 0 [(0, .inr (some (6, 0))), (1, .inl x1), (2, .inl x2), (3, .inl x3)] [] (c, σ, pr, τ) = mq_kv (pX F d 89 [.inr (some (6, 0)), .inl x1] (c, σ, pr, τ)) (fun w M => pL F d 74 f 5 [(0, .inr (some (6, 0))), (1, .inl x1), (2, .inl x2), (3, .inl x3)] (mq_psh w []) M) := id rfl
theorem T74_5 (F d f : Nat) (x1 x2 x3 : Int32) (c : Nat → Nat) (σ : mSg) (τ : mLg) :
    pL F d 74 (f + 4) 5 [(0, .inr (some (6, 0))), (1, .inl x1), (2, .inl x2), (3, .inl x3)] [.inr (.inl none)] (c, σ, pr, τ) = some (.inr 50, (c, σ, pr, τ)) := id rfl
theorem T74_5a (F d f r_0 : Nat) (x1 x2 x3 : Int32) (c : Nat → Nat) (σ : mSg) (τ : mLg) :
    pL F d 74 (f + 5) 5 [(0, .inr (some (6, 0))), (1, .inl x1), (2, .inl x2), (3, .inl x3)] [.inr (.inl (some (4, r_0)))] (c, σ, pr, τ) = (if x2 < 0 then pL F d 74 f 21 [(0, .inr (some (6, 0))), (1, .inl x1), (2, .inl x2), (3, .inl x3), (4, .inr (some (4, r_0)))] [] (c, σ, pr, τ) else pL F d 74 f 16 [(0, .inr (some (6, 0))), (1, .inl x1), (2, .inl x2), (3, .inl x3), (4, .inr (some (4, r_0)))] [] (c, σ, pr, τ)) := id rfl
theorem T74_21 (F d f r4 : Nat) (x1 x2 x3 : Int32) (c : Nat → Nat) (σ : mSg) (τ : mLg) :
    pL F d 74 (f + 1) 21 [(0, .inr (some (6, 0))), (1, .inl x1), (2, .inl x2), (3, .inl x3), (4, .inr (some (4, r4)))] [] (c, σ, pr, τ) = some (.inr 50, (c, σ, pr, τ)) := id rfl
theorem T74_16 (F d f r4 : Nat) (x1 x2 x3 : Int32) (c : Nat → Nat) (σ : mSg) (τ : mLg) :
    pL F d 74 (f + 3) 16 [(0, .inr (some (6, 0))), (1, .inl x1), (2, .inl x2), (3, .inl x3), (4, .inr (some (4, r4)))] [] (c, σ, pr, τ) = (if x2 < 4 then pL F d 74 f 31 [(0, .inr (some (6, 0))), (1, .inl x1), (2, .inl x2), (3, .inl x3), (4, .inr (some (4, r4)))] [] (c, σ, pr, τ) else pL F d 74 f 21 [(0, .inr (some (6, 0))), (1, .inl x1), (2, .inl x2), (3, .inl x3), (4, .inr (some (4, r4)))] [] (c, σ, pr, τ)) := id rfl
theorem T74_31 (F d f r4 : Nat) (x1 x2 x3 : Int32) (c : Nat → Nat) (σ : mSg) (τ : mLg) :
    pL F d 74 (f + 2) 31 [(0, .inr (some (6, 0))), (1, .inl x1), (2, .inl x2), (3, .inl x3), (4, .inr (some (4, r4)))] [] (c, σ, pr, τ) = (if x3 < 0 then pL F d 74 f 40 [(0, .inr (some (6, 0))), (1, .inl x1), (2, .inl x2), (3, .inl x3), (4, .inr (some (4, r4)))] [] (c, σ, pr, τ) else pL F d 74 f 35 [(0, .inr (some (6, 0))), (1, .inl x1), (2, .inl x2), (3, .inl x3), (4, .inr (some (4, r4)))] [] (c, σ, pr, τ)) := id rfl
theorem T74_40 (F d f r4 : Nat) (x1 x2 x3 : Int32) (c : Nat → Nat) (σ : mSg) (τ : mLg) :
    pL F d 74 (f + 1) 40 [(0, .inr (some (6, 0))), (1, .inl x1), (2, .inl x2), (3, .inl x3), (4, .inr (some (4, r4)))] [] (c, σ, pr, τ) = some (.inr 51, (c, σ, pr, τ)) := id rfl
theorem T74_35 (F d f r4 : Nat) (x1 x2 x3 : Int32) (c : Nat → Nat) (σ : mSg) (τ : mLg) :
    pL F d 74 (f + 3) 35 [(0, .inr (some (6, 0))), (1, .inl x1), (2, .inl x2), (3, .inl x3), (4, .inr (some (4, r4)))] [] (c, σ, pr, τ) = (if 4 < x3 then pL F d 74 f 40 [(0, .inr (some (6, 0))), (1, .inl x1), (2, .inl x2), (3, .inl x3), (4, .inr (some (4, r4)))] [] (c, σ, pr, τ) else pL F d 74 f 50 [(0, .inr (some (6, 0))), (1, .inl x1), (2, .inl x2), (3, .inl x3), (4, .inr (some (4, r4)))] [] (c, σ, pr, τ)) := id rfl
theorem T74_50 (F d f r4 : Nat) (x1 x2 x3 : Int32) (c : Nat → Nat) (σ : mSg) (τ : mLg) :
    pL F d 74 (f + 6) 50 [(0, .inr (some (6, 0))), (1, .inl x1), (2, .inl x2), (3, .inl x3), (4, .inr (some (4, r4)))] [] (c, σ, pr, τ) = (if x2 < 0 ∨ 4 ≤ Int32.toNatClampNeg x2 then none else some (.inl (none), (c, (mq_up σ 10 (2 * r4 + 1) (Int32.toNatClampNeg x2) x3), pr, τ))) := id rfl
/-! PartitionKernel.poke(III)V -/
theorem T75 (F d : Nat) (x1 x2 x3 : Int32) (c : Nat → Nat) (σ : mSg) (τ : mLg) :
    pX F (d + 1) 75 [.inr (some (6, 0)), .inl x1, .inl x2, .inl x3] (c, σ, pr, τ) = pL F d 75 F 0 [(0, .inr (some (6, 0))), (1, .inl x1), (2, .inl x2), (3, .inl x3)] [] (c, σ, pr, τ) := id rfl
theorem T75_0 (F d f : Nat) (x1 x2 x3 : Int32) (c : Nat → Nat) (σ : mSg) (τ : mLg) :
    pL F d 75 (f + 3) 0 [(0, .inr (some (6, 0))), (1, .inl x1), (2, .inl x2), (3, .inl x3)] [] (c, σ, pr, τ) = mq_kv (pX F d 89 [.inr (some (6, 0)), .inl x1] (c, σ, pr, τ)) (fun w M => pL F d 75 f 5 [(0, .inr (some (6, 0))), (1, .inl x1), (2, .inl x2), (3, .inl x3)] (mq_psh w []) M) := id rfl
theorem T75_5 (F d f : Nat) (x1 x2 x3 : Int32) (c : Nat → Nat) (σ : mSg) (τ : mLg) :
    pL F d 75 (f + 4) 5 [(0, .inr (some (6, 0))), (1, .inl x1), (2, .inl x2), (3, .inl x3)] [.inr (.inl none)] (c, σ, pr, τ) = some (.inr 50, (c, σ, pr, τ)) := id rfl
theorem T75_5a (F d f r_0 : Nat) (x1 x2 x3 : Int32) (c : Nat → Nat) (σ : mSg) (τ : mLg) :
    pL F d 75 (f + 6) 5 [(0, .inr (some (6, 0))), (1, .inl x1), (2, .inl x2), (3, .inl x3)] [.inr (.inl (some (4, r_0)))] (c, σ, pr, τ) = mq_ks (pX F d 16 [.inl x2, .inl 4] (c, σ, pr, τ)) (fun w M => pL F d 75 f 17 [(0, .inr (some (6, 0))), (1, .inl x1), (2, .inl x2), (3, .inl x3), (4, .inr (some (4, r_0)))] (mq_psh w []) M) := id rfl
theorem T75_17 (F d f r4 : Nat) (x1 x2 x3 x_0 : Int32) (c : Nat → Nat) (σ : mSg) (τ : mLg) :
    pL F d 75 (f + 1) 17 [(0, .inr (some (6, 0))), (1, .inl x1), (2, .inl x2), (3, .inl x3), (4, .inr (some (4, r4)))] [.inl x_0] (c, σ, pr, τ) = (if x_0 = 0 then pL F d 75 f 20 [(0, .inr (some (6, 0))), (1, .inl x1), (2, .inl x2), (3, .inl x3), (4, .inr (some (4, r4)))] [] (c, σ, pr, τ) else pL F d 75 f 30 [(0, .inr (some (6, 0))), (1, .inl x1), (2, .inl x2), (3, .inl x3), (4, .inr (some (4, r4)))] [] (c, σ, pr, τ)) := id rfl
theorem T75_20 (F d f r4 : Nat) (x1 x2 x3 : Int32) (c : Nat → Nat) (σ : mSg) (τ : mLg) :
    pL F d 75 (f + 1) 20 [(0, .inr (some (6, 0))), (1, .inl x1), (2, .inl x2), (3, .inl x3), (4, .inr (some (4, r4)))] [] (c, σ, pr, τ) = some (.inr 50, (c, σ, pr, τ)) := id rfl
theorem T75_30 (F d f r4 : Nat) (x1 x2 x3 : Int32) (c : Nat → Nat) (σ : mSg) (τ : mLg) :
    pL F d 75 (f + 5) 30 [(0, .inr (some (6, 0))), (1, .inl x1), (2, .inl x2), (3, .inl x3), (4, .inr (some (4, r4)))] [] (c, σ, pr, τ) = mq_kv (pX F d 18 [.inr (some (3, r4)), .inl x2, .inl x3] (c, σ, pr, τ)) (fun w M => pL F d 75 f 40 [(0, .inr (some (6, 0))), (1, .inl x1), (2, .inl x2), (3, .inl x3), (4, .inr (some (4, r4)))] (mq_psh w []) M) := id rfl
theorem T75_40 (F d f r4 : Nat) (x1 x2 x3 : Int32) (c : Nat → Nat) (σ : mSg) (τ : mLg) :
    pL F d 75 (f + 1) 40 [(0, .inr (some (6, 0))), (1, .inl x1), (2, .inl x2), (3, .inl x3), (4, .inr (some (4, r4)))] [] (c, σ, pr, τ) = some (.inl (none), (c, σ, pr, τ)) := id rfl
/-! PartitionKernel.begin()V -/
theorem T76 (F d : Nat) (c : Nat → Nat) (σ : mSg) (τ : mLg) :
    pX F (d + 1) 76 [.inr (some (6, 0))] (c, σ, pr, τ) = pL F d 76 F 0 [(0, .inr (some (6, 0)))] [] (c, σ, pr, τ) := id rfl
theorem T76_0 (F d f : Nat) (c : Nat → Nat) (σ : mSg) (τ : mLg) :
    pL F d 76 (f + 3) 0 [(0, .inr (some (6, 0)))] [] (c, σ, pr, τ) = (if (σ 6 0 7) = 0 then pL F d 76 f 7 [(0, .inr (some (6, 0)))] [] (c, σ, pr, τ) else pL F d 76 f 17 [(0, .inr (some (6, 0)))] [] (c, σ, pr, τ)) := id rfl
theorem T76_7 (F d f : Nat) (c : Nat → Nat) (σ : mSg) (τ : mLg) :
    pL F d 76 (f + 4) 7 [(0, .inr (some (6, 0)))] [] (c, σ, pr, τ) = (if (σ 2 0 2) = 0 then pL F d 76 f 17 [(0, .inr (some (6, 0)))] [] (c, σ, pr, τ) else pL F d 76 f 27 [(0, .inr (some (6, 0)))] [] (c, σ, pr, τ)) := id rfl
theorem T76_17 (F d f : Nat) (c : Nat → Nat) (σ : mSg) (τ : mLg) :
    pL F d 76 (f + 1) 17 [(0, .inr (some (6, 0)))] [] (c, σ, pr, τ) = some (.inr 52, (c, σ, pr, τ)) := id rfl
theorem T76_27 (F d f : Nat) (c : Nat → Nat) (σ : mSg) (τ : mLg) :
    pL F d 76 (f + 5) 27 [(0, .inr (some (6, 0)))] [] (c, σ, pr, τ) = pL F d 76 f 34 [(0, .inr (some (6, 0))), (1, .inl 0)] [] (c, (mq_up σ 6 0 7 1), pr, τ) := id rfl
theorem T76_34 (F d f : Nat) (x1 : Int32) (c : Nat → Nat) (σ : mSg) (τ : mLg) :
    pL F d 76 (f + 3) 34 [(0, .inr (some (6, 0))), (1, .inl x1)] [] (c, σ, pr, τ) = (if x1 < 4 then pL F d 76 f 39 [(0, .inr (some (6, 0))), (1, .inl x1)] [] (c, σ, pr, τ) else pL F d 76 f 58 [(0, .inr (some (6, 0))), (1, .inl x1)] [] (c, σ, pr, τ)) := id rfl
theorem T76_39 (F d f : Nat) (x1 : Int32) (c : Nat → Nat) (σ : mSg) (τ : mLg) :
    pL F d 76 (f + 7) 39 [(0, .inr (some (6, 0))), (1, .inl x1)] [] (c, σ, pr, τ) = (if x1 < 0 ∨ 4 ≤ Int32.toNatClampNeg x1 then none else mq_kv (pX F d 28 [.inr (some (4, (Int32.toNatClampNeg x1))), .inl (σ 6 0 5)] (c, σ, pr, τ)) (fun w M => pL F d 76 f 52 [(0, .inr (some (6, 0))), (1, .inl x1)] (mq_psh w []) M)) := id rfl
theorem T76_58 (F d f : Nat) (x1 : Int32) (c : Nat → Nat) (σ : mSg) (τ : mLg) :
    pL F d 76 (f + 1) 58 [(0, .inr (some (6, 0))), (1, .inl x1)] [] (c, σ, pr, τ) = some (.inl (none), (c, σ, pr, τ)) := id rfl
theorem T76_52 (F d f : Nat) (x1 : Int32) (c : Nat → Nat) (σ : mSg) (τ : mLg) :
    pL F d 76 (f + 2) 52 [(0, .inr (some (6, 0))), (1, .inl x1)] [] (c, σ, pr, τ) = pL F d 76 f 34 [(0, .inr (some (6, 0))), (1, .inl (x1 + 1))] [] (c, σ, pr, τ) := id rfl
/-! PartitionKernel.run(I)I -/
theorem T77 (F d : Nat) (x1 : Int32) (c : Nat → Nat) (σ : mSg) (τ : mLg) :
    pX F (d + 1) 77 [.inr (some (6, 0)), .inl x1] (c, σ, pr, τ) = pL F d 77 F 0 [(0, .inr (some (6, 0))), (1, .inl x1)] [] (c, σ, pr, τ) := id rfl
theorem T77_0 (F d f : Nat) (x1 : Int32) (c : Nat → Nat) (σ : mSg) (τ : mLg) :
    pL F d 77 (f + 3) 0 [(0, .inr (some (6, 0))), (1, .inl x1)] [] (c, σ, pr, τ) = (if (σ 6 0 7) = 0 then pL F d 77 f 7 [(0, .inr (some (6, 0))), (1, .inl x1)] [] (c, σ, pr, τ) else pL F d 77 f 17 [(0, .inr (some (6, 0))), (1, .inl x1)] [] (c, σ, pr, τ)) := id rfl
theorem T77_7 (F d f : Nat) (x1 : Int32) (c : Nat → Nat) (σ : mSg) (τ : mLg) :
    pL F d 77 (f + 1) 7 [(0, .inr (some (6, 0))), (1, .inl x1)] [] (c, σ, pr, τ) = some (.inr 52, (c, σ, pr, τ)) := id rfl
theorem T77_17 (F d f : Nat) (x1 : Int32) (c : Nat → Nat) (σ : mSg) (τ : mLg) :
    pL F d 77 (f + 2) 17 [(0, .inr (some (6, 0))), (1, .inl x1)] [] (c, σ, pr, τ) = (if x1 < 0 then pL F d 77 f 28 [(0, .inr (some (6, 0))), (1, .inl x1)] [] (c, σ, pr, τ) else pL F d 77 f 21 [(0, .inr (some (6, 0))), (1, .inl x1)] [] (c, σ, pr, τ)) := id rfl
theorem T77_28 (F d f : Nat) (x1 : Int32) (c : Nat → Nat) (σ : mSg) (τ : mLg) :
    pL F d 77 (f + 1) 28 [(0, .inr (some (6, 0))), (1, .inl x1)] [] (c, σ, pr, τ) = some (.inr 51, (c, σ, pr, τ)) := id rfl
theorem T77_21 (F d f : Nat) (x1 : Int32) (c : Nat → Nat) (σ : mSg) (τ : mLg) :
    pL F d 77 (f + 3) 21 [(0, .inr (some (6, 0))), (1, .inl x1)] [] (c, σ, pr, τ) = (if 500 < x1 then pL F d 77 f 28 [(0, .inr (some (6, 0))), (1, .inl x1)] [] (c, σ, pr, τ) else pL F d 77 f 38 [(0, .inr (some (6, 0))), (1, .inl x1)] [] (c, σ, pr, τ)) := id rfl
theorem T77_38 (F d f : Nat) (x1 : Int32) (c : Nat → Nat) (σ : mSg) (τ : mLg) :
    pL F d 77 (f + 5) 38 [(0, .inr (some (6, 0))), (1, .inl x1)] [] (c, σ, pr, τ) = pL F d 77 f 45 [(0, .inr (some (6, 0))), (1, .inl x1), (2, .inl (σ 6 0 6)), (3, .inl 0)] [] (c, σ, pr, τ) := id rfl
theorem T77_45 (F d f : Nat) (x1 x2 x3 : Int32) (c : Nat → Nat) (σ : mSg) (τ : mLg) :
    pL F d 77 (f + 3) 45 [(0, .inr (some (6, 0))), (1, .inl x1), (2, .inl x2), (3, .inl x3)] [] (c, σ, pr, τ) = (if x3 < x1 then pL F d 77 f 50 [(0, .inr (some (6, 0))), (1, .inl x1), (2, .inl x2), (3, .inl x3)] [] (c, σ, pr, τ) else pL F d 77 f 105 [(0, .inr (some (6, 0))), (1, .inl x1), (2, .inl x2), (3, .inl x3)] [] (c, σ, pr, τ)) := id rfl
theorem T77_50 (F d f : Nat) (x1 x2 x3 : Int32) (c : Nat → Nat) (σ : mSg) (τ : mLg) :
    pL F d 77 (f + 4) 50 [(0, .inr (some (6, 0))), (1, .inl x1), (2, .inl x2), (3, .inl x3)] [] (c, σ, pr, τ) = mq_kv (pX F d 13 [.inr (some (2, 0))] (c, σ, pr, τ)) (fun w M => pL F d 77 f 58 [(0, .inr (some (6, 0))), (1, .inl x1), (2, .inl x2), (3, .inl x3)] (mq_psh w [.inr (.inl (some (6, 0)))]) M) := id rfl
theorem T77_105 (F d f : Nat) (x1 x2 x3 : Int32) (c : Nat → Nat) (σ : mSg) (τ : mLg) :
    pL F d 77 (f + 5) 105 [(0, .inr (some (6, 0))), (1, .inl x1), (2, .inl x2), (3, .inl x3)] [] (c, σ, pr, τ) = some (.inl (some (.inl ((σ 6 0 6) - x2))), (c, σ, pr, τ)) := id rfl
theorem T77_58 (F d f : Nat) (x1 x2 x3 x_0 : Int32) (c : Nat → Nat) (σ : mSg) (τ : mLg) :
    pL F d 77 (f + 1) 58 [(0, .inr (some (6, 0))), (1, .inl x1), (2, .inl x2), (3, .inl x3)] [.inl x_0, .inr (.inl (some (6, 0)))] (c, σ, pr, τ) = mq_kv (pX F d 89 [.inr (some (6, 0)), .inl x_0] (c, σ, pr, τ)) (fun w M => pL F d 77 f 61 [(0, .inr (some (6, 0))), (1, .inl x1), (2, .inl x2), (3, .inl x3)] (mq_psh w []) M) := id rfl
theorem T77_61 (F d f : Nat) (x1 x2 x3 : Int32) (c : Nat → Nat) (σ : mSg) (τ : mLg) :
    pL F d 77 (f + 12) 61 [(0, .inr (some (6, 0))), (1, .inl x1), (2, .inl x2), (3, .inl x3)] [.inr (.inl none)] (c, σ, pr, τ) = mq_kv (pX F d 14 [.inr (some (2, 0))] (c, (mq_up σ 6 0 5 ((σ 6 0 5) + 1)), pr, τ)) (fun w M => pL F d 77 f 99 [(0, .inr (some (6, 0))), (1, .inl x1), (2, .inl x2), (3, .inl x3), (4, .inr none)] (mq_psh w []) M) := id rfl
theorem T77_61a (F d f r_0 : Nat) (x1 x2 x3 : Int32) (c : Nat → Nat) (σ : mSg) (τ : mLg) :
    pL F d 77 (f + 6) 61 [(0, .inr (some (6, 0))), (1, .inl x1), (2, .inl x2), (3, .inl x3)] [.inr (.inl (some (4, r_0)))] (c, σ, pr, τ) = (if (σ 4 r_0 8) = 0 then pL F d 77 f 76 [(0, .inr (some (6, 0))), (1, .inl x1), (2, .inl x2), (3, .inl x3), (4, .inr (some (4, r_0)))] [] (c, σ, pr, τ) else pL F d 77 f 82 [(0, .inr (some (6, 0))), (1, .inl x1), (2, .inl x2), (3, .inl x3), (4, .inr (some (4, r_0)))] [] (c, σ, pr, τ)) := id rfl
theorem T77_99 (F d f : Nat) (x1 x2 x3 : Int32) (c : Nat → Nat) (σ : mSg) (τ : mLg) :
    pL F d 77 (f + 2) 99 [(0, .inr (some (6, 0))), (1, .inl x1), (2, .inl x2), (3, .inl x3), (4, .inr none)] [] (c, σ, pr, τ) = pL F d 77 f 45 [(0, .inr (some (6, 0))), (1, .inl x1), (2, .inl x2), (3, .inl (x3 + 1)), (4, .inr none)] [] (c, σ, pr, τ) := id rfl
theorem T77_76 (F d f r4 : Nat) (x1 x2 x3 : Int32) (c : Nat → Nat) (σ : mSg) (τ : mLg) :
    pL F d 77 (f + 3) 76 [(0, .inr (some (6, 0))), (1, .inl x1), (2, .inl x2), (3, .inl x3), (4, .inr (some (4, r4)))] [] (c, σ, pr, τ) = mq_kv (pX F d 92 [.inr (some (6, 0)), .inr (some (4, r4))] (c, σ, pr, τ)) (fun w M => pL F d 77 f 82 [(0, .inr (some (6, 0))), (1, .inl x1), (2, .inl x2), (3, .inl x3), (4, .inr (some (4, r4)))] (mq_psh w []) M) := id rfl
theorem T77_82 (F d f r4 : Nat) (x1 x2 x3 : Int32) (c : Nat → Nat) (σ : mSg) (τ : mLg) :
    pL F d 77 (f + 9) 82 [(0, .inr (some (6, 0))), (1, .inl x1), (2, .inl x2), (3, .inl x3), (4, .inr (some (4, r4)))] [] (c, σ, pr, τ) = mq_kv (pX F d 14 [.inr (some (2, 0))] (c, (mq_up σ 6 0 5 ((σ 6 0 5) + 1)), pr, τ)) (fun w M => pL F d 77 f 99 [(0, .inr (some (6, 0))), (1, .inl x1), (2, .inl x2), (3, .inl x3), (4, .inr (some (4, r4)))] (mq_psh w []) M) := id rfl
theorem T77_45a (F d f : Nat) (x1 x2 x3 : Int32) (c : Nat → Nat) (σ : mSg) (τ : mLg) :
    pL F d 77 (f + 3) 45 [(0, .inr (some (6, 0))), (1, .inl x1), (2, .inl x2), (3, .inl x3), (4, .inr none)] [] (c, σ, pr, τ) = (if x3 < x1 then pL F d 77 f 50 [(0, .inr (some (6, 0))), (1, .inl x1), (2, .inl x2), (3, .inl x3), (4, .inr none)] [] (c, σ, pr, τ) else pL F d 77 f 105 [(0, .inr (some (6, 0))), (1, .inl x1), (2, .inl x2), (3, .inl x3), (4, .inr none)] [] (c, σ, pr, τ)) := id rfl
theorem T77_99a (F d f r4 : Nat) (x1 x2 x3 : Int32) (c : Nat → Nat) (σ : mSg) (τ : mLg) :
    pL F d 77 (f + 2) 99 [(0, .inr (some (6, 0))), (1, .inl x1), (2, .inl x2), (3, .inl x3), (4, .inr (some (4, r4)))] [] (c, σ, pr, τ) = pL F d 77 f 45 [(0, .inr (some (6, 0))), (1, .inl x1), (2, .inl x2), (3, .inl (x3 + 1)), (4, .inr (some (4, r4)))] [] (c, σ, pr, τ) := id rfl
theorem T77_50a (F d f : Nat) (x1 x2 x3 : Int32) (c : Nat → Nat) (σ : mSg) (τ : mLg) :
    pL F d 77 (f + 4) 50 [(0, .inr (some (6, 0))), (1, .inl x1), (2, .inl x2), (3, .inl x3), (4, .inr none)] [] (c, σ, pr, τ) = mq_kv (pX F d 13 [.inr (some (2, 0))] (c, σ, pr, τ)) (fun w M => pL F d 77 f 58 [(0, .inr (some (6, 0))), (1, .inl x1), (2, .inl x2), (3, .inl x3), (4, .inr none)] (mq_psh w [.inr (.inl (some (6, 0)))]) M) := id rfl
theorem T77_105a (F d f : Nat) (x1 x2 x3 : Int32) (c : Nat → Nat) (σ : mSg) (τ : mLg) :
    pL F d 77 (f + 5) 105 [(0, .inr (some (6, 0))), (1, .inl x1), (2, .inl x2), (3, .inl x3), (4, .inr none)] [] (c, σ, pr, τ) = some (.inl (some (.inl ((σ 6 0 6) - x2))), (c, σ, pr, τ)) := id rfl
theorem T77_45b (F d f r4 : Nat) (x1 x2 x3 : Int32) (c : Nat → Nat) (σ : mSg) (τ : mLg) :
    pL F d 77 (f + 3) 45 [(0, .inr (some (6, 0))), (1, .inl x1), (2, .inl x2), (3, .inl x3), (4, .inr (some (4, r4)))] [] (c, σ, pr, τ) = (if x3 < x1 then pL F d 77 f 50 [(0, .inr (some (6, 0))), (1, .inl x1), (2, .inl x2), (3, .inl x3), (4, .inr (some (4, r4)))] [] (c, σ, pr, τ) else pL F d 77 f 105 [(0, .inr (some (6, 0))), (1, .inl x1), (2, .inl x2), (3, .inl x3), (4, .inr (some (4, r4)))] [] (c, σ, pr, τ)) := id rfl
theorem T77_58a (F d f : Nat) (x1 x2 x3 x_0 : Int32) (c : Nat → Nat) (σ : mSg) (τ : mLg) :
    pL F d 77 (f + 1) 58 [(0, .inr (some (6, 0))), (1, .inl x1), (2, .inl x2), (3, .inl x3), (4, .inr none)] [.inl x_0, .inr (.inl (some (6, 0)))] (c, σ, pr, τ) = mq_kv (pX F d 89 [.inr (some (6, 0)), .inl x_0] (c, σ, pr, τ)) (fun w M => pL F d 77 f 61 [(0, .inr (some (6, 0))), (1, .inl x1), (2, .inl x2), (3, .inl x3), (4, .inr none)] (mq_psh w []) M) := id rfl
theorem T77_50b (F d f r4 : Nat) (x1 x2 x3 : Int32) (c : Nat → Nat) (σ : mSg) (τ : mLg) :
    pL F d 77 (f + 4) 50 [(0, .inr (some (6, 0))), (1, .inl x1), (2, .inl x2), (3, .inl x3), (4, .inr (some (4, r4)))] [] (c, σ, pr, τ) = mq_kv (pX F d 13 [.inr (some (2, 0))] (c, σ, pr, τ)) (fun w M => pL F d 77 f 58 [(0, .inr (some (6, 0))), (1, .inl x1), (2, .inl x2), (3, .inl x3), (4, .inr (some (4, r4)))] (mq_psh w [.inr (.inl (some (6, 0)))]) M) := id rfl
theorem T77_105b (F d f r4 : Nat) (x1 x2 x3 : Int32) (c : Nat → Nat) (σ : mSg) (τ : mLg) :
    pL F d 77 (f + 5) 105 [(0, .inr (some (6, 0))), (1, .inl x1), (2, .inl x2), (3, .inl x3), (4, .inr (some (4, r4)))] [] (c, σ, pr, τ) = some (.inl (some (.inl ((σ 6 0 6) - x2))), (c, σ, pr, τ)) := id rfl
theorem T77_61b (F d f : Nat) (x1 x2 x3 : Int32) (c : Nat → Nat) (σ : mSg) (τ : mLg) :
    pL F d 77 (f + 12) 61 [(0, .inr (some (6, 0))), (1, .inl x1), (2, .inl x2), (3, .inl x3), (4, .inr none)] [.inr (.inl none)] (c, σ, pr, τ) = mq_kv (pX F d 14 [.inr (some (2, 0))] (c, (mq_up σ 6 0 5 ((σ 6 0 5) + 1)), pr, τ)) (fun w M => pL F d 77 f 99 [(0, .inr (some (6, 0))), (1, .inl x1), (2, .inl x2), (3, .inl x3), (4, .inr none)] (mq_psh w []) M) := id rfl
theorem T77_61c (F d f r_0 : Nat) (x1 x2 x3 : Int32) (c : Nat → Nat) (σ : mSg) (τ : mLg) :
    pL F d 77 (f + 6) 61 [(0, .inr (some (6, 0))), (1, .inl x1), (2, .inl x2), (3, .inl x3), (4, .inr none)] [.inr (.inl (some (4, r_0)))] (c, σ, pr, τ) = (if (σ 4 r_0 8) = 0 then pL F d 77 f 76 [(0, .inr (some (6, 0))), (1, .inl x1), (2, .inl x2), (3, .inl x3), (4, .inr (some (4, r_0)))] [] (c, σ, pr, τ) else pL F d 77 f 82 [(0, .inr (some (6, 0))), (1, .inl x1), (2, .inl x2), (3, .inl x3), (4, .inr (some (4, r_0)))] [] (c, σ, pr, τ)) := id rfl
theorem T77_58b (F d f r4 : Nat) (x1 x2 x3 x_0 : Int32) (c : Nat → Nat) (σ : mSg) (τ : mLg) :
    pL F d 77 (f + 1) 58 [(0, .inr (some (6, 0))), (1, .inl x1), (2, .inl x2), (3, .inl x3), (4, .inr (some (4, r4)))] [.inl x_0, .inr (.inl (some (6, 0)))] (c, σ, pr, τ) = mq_kv (pX F d 89 [.inr (some (6, 0)), .inl x_0] (c, σ, pr, τ)) (fun w M => pL F d 77 f 61 [(0, .inr (some (6, 0))), (1, .inl x1), (2, .inl x2), (3, .inl x3), (4, .inr (some (4, r4)))] (mq_psh w []) M) := id rfl
theorem T77_61d (F d f r4 : Nat) (x1 x2 x3 : Int32) (c : Nat → Nat) (σ : mSg) (τ : mLg) :
    pL F d 77 (f + 12) 61 [(0, .inr (some (6, 0))), (1, .inl x1), (2, .inl x2), (3, .inl x3), (4, .inr (some (4, r4)))] [.inr (.inl none)] (c, σ, pr, τ) = mq_kv (pX F d 14 [.inr (some (2, 0))] (c, (mq_up σ 6 0 5 ((σ 6 0 5) + 1)), pr, τ)) (fun w M => pL F d 77 f 99 [(0, .inr (some (6, 0))), (1, .inl x1), (2, .inl x2), (3, .inl x3), (4, .inr none)] (mq_psh w []) M) := id rfl
theorem T77_61e (F d f r4 r_0 : Nat) (x1 x2 x3 : Int32) (c : Nat → Nat) (σ : mSg) (τ : mLg) :
    pL F d 77 (f + 6) 61 [(0, .inr (some (6, 0))), (1, .inl x1), (2, .inl x2), (3, .inl x3), (4, .inr (some (4, r4)))] [.inr (.inl (some (4, r_0)))] (c, σ, pr, τ) = (if (σ 4 r_0 8) = 0 then pL F d 77 f 76 [(0, .inr (some (6, 0))), (1, .inl x1), (2, .inl x2), (3, .inl x3), (4, .inr (some (4, r_0)))] [] (c, σ, pr, τ) else pL F d 77 f 82 [(0, .inr (some (6, 0))), (1, .inl x1), (2, .inl x2), (3, .inl x3), (4, .inr (some (4, r_0)))] [] (c, σ, pr, τ)) := id rfl
/-! PartitionKernel.peek(II)I -/
theorem T78 (F d : Nat) (x1 x2 : Int32) (c : Nat → Nat) (σ : mSg) (τ : mLg) :
    pX F (d + 1) 78 [.inr (some (6, 0)), .inl x1, .inl x2] (c, σ, pr, τ) = pL F d 78 F 0 [(0, .inr (some (6, 0))), (1, .inl x1), (2, .inl x2)] [] (c, σ, pr, τ) := id rfl
theorem T78_0 (F d f : Nat) (x1 x2 : Int32) (c : Nat → Nat) (σ : mSg) (τ : mLg) :
    pL F d 78 (f + 3) 0 [(0, .inr (some (6, 0))), (1, .inl x1), (2, .inl x2)] [] (c, σ, pr, τ) = mq_kv (pX F d 89 [.inr (some (6, 0)), .inl x1] (c, σ, pr, τ)) (fun w M => pL F d 78 f 5 [(0, .inr (some (6, 0))), (1, .inl x1), (2, .inl x2)] (mq_psh w []) M) := id rfl
theorem T78_5 (F d f : Nat) (x1 x2 : Int32) (c : Nat → Nat) (σ : mSg) (τ : mLg) :
    pL F d 78 (f + 6) 5 [(0, .inr (some (6, 0))), (1, .inl x1), (2, .inl x2)] [.inr (.inl none)] (c, σ, pr, τ) = some (.inl (some (.inl 0)), (c, σ, pr, τ)) := id rfl
theorem T78_5a (F d f r_0 : Nat) (x1 x2 : Int32) (c : Nat → Nat) (σ : mSg) (τ : mLg) :
    pL F d 78 (f + 7) 5 [(0, .inr (some (6, 0))), (1, .inl x1), (2, .inl x2)] [.inr (.inl (some (4, r_0)))] (c, σ, pr, τ) = mq_kv (pX F d 17 [.inr (some (3, r_0)), .inl x2] (c, σ, pr, τ)) (fun w M => pL F d 78 f 22 [(0, .inr (some (6, 0))), (1, .inl x1), (2, .inl x2), (3, .inr (some (4, r_0)))] (mq_psh w []) M) := id rfl
theorem T78_22 (F d f r3 : Nat) (x1 x2 x_0 : Int32) (c : Nat → Nat) (σ : mSg) (τ : mLg) :
    pL F d 78 (f + 1) 22 [(0, .inr (some (6, 0))), (1, .inl x1), (2, .inl x2), (3, .inr (some (4, r3)))] [.inl x_0] (c, σ, pr, τ) = some (.inl (some (.inl x_0)), (c, σ, pr, τ)) := id rfl
/-! PartitionKernel.register(III)I -/
theorem T79 (F d : Nat) (x1 x2 x3 : Int32) (c : Nat → Nat) (σ : mSg) (τ : mLg) :
    pX F (d + 1) 79 [.inr (some (6, 0)), .inl x1, .inl x2, .inl x3] (c, σ, pr, τ) = pL F d 79 F 0 [(0, .inr (some (6, 0))), (1, .inl x1), (2, .inl x2), (3, .inl x3)] [] (c, σ, pr, τ) := id rfl
theorem T79_0 (F d f : Nat) (x1 x2 x3 : Int32) (c : Nat → Nat) (σ : mSg) (τ : mLg) :
    pL F d 79 (f + 4) 0 [(0, .inr (some (6, 0))), (1, .inl x1), (2, .inl x2), (3, .inl x3)] [] (c, σ, pr, τ) = mq_kv (pX F d 90 [.inr (some (6, 0)), .inl x1, .inl x2] (c, σ, pr, τ)) (fun w M => pL F d 79 f 6 [(0, .inr (some (6, 0))), (1, .inl x1), (2, .inl x2), (3, .inl x3)] (mq_psh w []) M) := id rfl
theorem T79_6 (F d f : Nat) (x1 x2 x3 : Int32) (c : Nat → Nat) (σ : mSg) (τ : mLg) :
    pL F d 79 (f + 6) 6 [(0, .inr (some (6, 0))), (1, .inl x1), (2, .inl x2), (3, .inl x3)] [.inr (.inl none)] (c, σ, pr, τ) = some (.inl (some (.inl 0)), (c, σ, pr, τ)) := id rfl
theorem T79_6a (F d f r_0 : Nat) (x1 x2 x3 : Int32) (c : Nat → Nat) (σ : mSg) (τ : mLg) :
    pL F d 79 (f + 6) 6 [(0, .inr (some (6, 0))), (1, .inl x1), (2, .inl x2), (3, .inl x3)] [.inr (.inl (some (5, r_0)))] (c, σ, pr, τ) = mq_kv (pX F d 43 [.inr (some (5, r_0)), .inl x3] (c, σ, pr, τ)) (fun w M => pL F d 79 f 23 [(0, .inr (some (6, 0))), (1, .inl x1), (2, .inl x2), (3, .inl x3), (4, .inr (some (5, r_0)))] (mq_psh w []) M) := id rfl
theorem T79_23 (F d f r4 : Nat) (x1 x2 x3 x_0 : Int32) (c : Nat → Nat) (σ : mSg) (τ : mLg) :
    pL F d 79 (f + 1) 23 [(0, .inr (some (6, 0))), (1, .inl x1), (2, .inl x2), (3, .inl x3), (4, .inr (some (5, r4)))] [.inl x_0] (c, σ, pr, τ) = some (.inl (some (.inl x_0)), (c, σ, pr, τ)) := id rfl
/-! PartitionKernel.state(III)I -/
theorem T80 (F d : Nat) (x1 x2 x3 : Int32) (c : Nat → Nat) (σ : mSg) (τ : mLg) :
    pX F (d + 1) 80 [.inr (some (6, 0)), .inl x1, .inl x2, .inl x3] (c, σ, pr, τ) = pL F d 80 F 0 [(0, .inr (some (6, 0))), (1, .inl x1), (2, .inl x2), (3, .inl x3)] [] (c, σ, pr, τ) := id rfl
theorem T80_0 (F d f : Nat) (x1 x2 x3 : Int32) (c : Nat → Nat) (σ : mSg) (τ : mLg) :
    pL F d 80 (f + 4) 0 [(0, .inr (some (6, 0))), (1, .inl x1), (2, .inl x2), (3, .inl x3)] [] (c, σ, pr, τ) = mq_kv (pX F d 90 [.inr (some (6, 0)), .inl x1, .inl x2] (c, σ, pr, τ)) (fun w M => pL F d 80 f 6 [(0, .inr (some (6, 0))), (1, .inl x1), (2, .inl x2), (3, .inl x3)] (mq_psh w []) M) := id rfl
theorem T80_6 (F d f : Nat) (x1 x2 x3 : Int32) (c : Nat → Nat) (σ : mSg) (τ : mLg) :
    pL F d 80 (f + 6) 6 [(0, .inr (some (6, 0))), (1, .inl x1), (2, .inl x2), (3, .inl x3)] [.inr (.inl none)] (c, σ, pr, τ) = some (.inl (some (.inl (-1))), (c, σ, pr, τ)) := id rfl
theorem T80_6a (F d f r_0 : Nat) (x1 x2 x3 : Int32) (c : Nat → Nat) (σ : mSg) (τ : mLg) :
    pL F d 80 (f + 6) 6 [(0, .inr (some (6, 0))), (1, .inl x1), (2, .inl x2), (3, .inl x3)] [.inr (.inl (some (5, r_0)))] (c, σ, pr, τ) = mq_kv (pX F d 49 [.inr (some (5, r_0)), .inl x3] (c, σ, pr, τ)) (fun w M => pL F d 80 f 23 [(0, .inr (some (6, 0))), (1, .inl x1), (2, .inl x2), (3, .inl x3), (4, .inr (some (5, r_0)))] (mq_psh w []) M) := id rfl
theorem T80_23 (F d f r4 : Nat) (x1 x2 x3 x_0 : Int32) (c : Nat → Nat) (σ : mSg) (τ : mLg) :
    pL F d 80 (f + 1) 23 [(0, .inr (some (6, 0))), (1, .inl x1), (2, .inl x2), (3, .inl x3), (4, .inr (some (5, r4)))] [.inl x_0] (c, σ, pr, τ) = some (.inl (some (.inl x_0)), (c, σ, pr, τ)) := id rfl
/-! PartitionKernel.partition(II)I -/
theorem T81 (F d : Nat) (x1 x2 : Int32) (c : Nat → Nat) (σ : mSg) (τ : mLg) :
    pX F (d + 1) 81 [.inr (some (6, 0)), .inl x1, .inl x2] (c, σ, pr, τ) = pL F d 81 F 0 [(0, .inr (some (6, 0))), (1, .inl x1), (2, .inl x2)] [] (c, σ, pr, τ) := id rfl
theorem T81_0 (F d f : Nat) (x1 x2 : Int32) (c : Nat → Nat) (σ : mSg) (τ : mLg) :
    pL F d 81 (f + 3) 0 [(0, .inr (some (6, 0))), (1, .inl x1), (2, .inl x2)] [] (c, σ, pr, τ) = mq_kv (pX F d 89 [.inr (some (6, 0)), .inl x1] (c, σ, pr, τ)) (fun w M => pL F d 81 f 5 [(0, .inr (some (6, 0))), (1, .inl x1), (2, .inl x2)] (mq_psh w []) M) := id rfl
theorem T81_5 (F d f : Nat) (x1 x2 : Int32) (c : Nat → Nat) (σ : mSg) (τ : mLg) :
    pL F d 81 (f + 6) 5 [(0, .inr (some (6, 0))), (1, .inl x1), (2, .inl x2)] [.inr (.inl none)] (c, σ, pr, τ) = some (.inl (some (.inl (-1))), (c, σ, pr, τ)) := id rfl
theorem T81_5a (F d f r_0 : Nat) (x1 x2 : Int32) (c : Nat → Nat) (σ : mSg) (τ : mLg) :
    pL F d 81 (f + 6) 5 [(0, .inr (some (6, 0))), (1, .inl x1), (2, .inl x2)] [.inr (.inl (some (4, r_0)))] (c, σ, pr, τ) = mq_kv (pX F d 26 [.inr (some (4, r_0)), .inl x2] (c, σ, pr, τ)) (fun w M => pL F d 81 f 19 [(0, .inr (some (6, 0))), (1, .inl x1), (2, .inl x2), (3, .inr (some (4, r_0)))] (mq_psh w []) M) := id rfl
theorem T81_19 (F d f r3 : Nat) (x1 x2 x_0 : Int32) (c : Nat → Nat) (σ : mSg) (τ : mLg) :
    pL F d 81 (f + 1) 19 [(0, .inr (some (6, 0))), (1, .inl x1), (2, .inl x2), (3, .inr (some (4, r3)))] [.inl x_0] (c, σ, pr, τ) = some (.inl (some (.inl x_0)), (c, σ, pr, τ)) := id rfl
/-! PartitionKernel.traffic(II)I -/
theorem T82 (F d : Nat) (x1 x2 : Int32) (c : Nat → Nat) (σ : mSg) (τ : mLg) :
    pX F (d + 1) 82 [.inr (some (6, 0)), .inl x1, .inl x2] (c, σ, pr, τ) = pL F d 82 F 0 [(0, .inr (some (6, 0))), (1, .inl x1), (2, .inl x2)] [] (c, σ, pr, τ) := id rfl
theorem T82_0 (F d f : Nat) (x1 x2 : Int32) (c : Nat → Nat) (σ : mSg) (τ : mLg) :
    pL F d 82 (f + 3) 0 [(0, .inr (some (6, 0))), (1, .inl x1), (2, .inl x2)] [] (c, σ, pr, τ) = mq_kv (pX F d 91 [.inr (some (6, 0)), .inl x1] (c, σ, pr, τ)) (fun w M => pL F d 82 f 5 [(0, .inr (some (6, 0))), (1, .inl x1), (2, .inl x2)] (mq_psh w []) M) := id rfl
theorem T82_5 (F d f : Nat) (x1 x2 : Int32) (c : Nat → Nat) (σ : mSg) (τ : mLg) :
    pL F d 82 (f + 6) 5 [(0, .inr (some (6, 0))), (1, .inl x1), (2, .inl x2)] [.inr (.inl none)] (c, σ, pr, τ) = some (.inl (some (.inl (-1))), (c, σ, pr, τ)) := id rfl
theorem T82_5a (F d f r_0 : Nat) (x1 x2 : Int32) (c : Nat → Nat) (σ : mSg) (τ : mLg) :
    pL F d 82 (f + 6) 5 [(0, .inr (some (6, 0))), (1, .inl x1), (2, .inl x2)] [.inr (.inl (some (0, r_0)))] (c, σ, pr, τ) = mq_kv (pX F d 6 [.inr (some (0, r_0)), .inl x2] (c, σ, pr, τ)) (fun w M => pL F d 82 f 19 [(0, .inr (some (6, 0))), (1, .inl x1), (2, .inl x2), (3, .inr (some (0, r_0)))] (mq_psh w []) M) := id rfl
theorem T82_19 (F d f r3 : Nat) (x1 x2 x_0 : Int32) (c : Nat → Nat) (σ : mSg) (τ : mLg) :
    pL F d 82 (f + 1) 19 [(0, .inr (some (6, 0))), (1, .inl x1), (2, .inl x2), (3, .inr (some (0, r3)))] [.inl x_0] (c, σ, pr, τ) = some (.inl (some (.inl x_0)), (c, σ, pr, τ)) := id rfl
/-! PartitionKernel.word(II)I -/
theorem T83 (F d : Nat) (x1 x2 : Int32) (c : Nat → Nat) (σ : mSg) (τ : mLg) :
    pX F (d + 1) 83 [.inr (some (6, 0)), .inl x1, .inl x2] (c, σ, pr, τ) = pL F d 83 F 0 [(0, .inr (some (6, 0))), (1, .inl x1), (2, .inl x2)] [] (c, σ, pr, τ) := id rfl
theorem T83_0 (F d f : Nat) (x1 x2 : Int32) (c : Nat → Nat) (σ : mSg) (τ : mLg) :
    pL F d 83 (f + 3) 0 [(0, .inr (some (6, 0))), (1, .inl x1), (2, .inl x2)] [] (c, σ, pr, τ) = mq_kv (pX F d 91 [.inr (some (6, 0)), .inl x1] (c, σ, pr, τ)) (fun w M => pL F d 83 f 5 [(0, .inr (some (6, 0))), (1, .inl x1), (2, .inl x2)] (mq_psh w []) M) := id rfl
theorem T83_5 (F d f : Nat) (x1 x2 : Int32) (c : Nat → Nat) (σ : mSg) (τ : mLg) :
    pL F d 83 (f + 6) 5 [(0, .inr (some (6, 0))), (1, .inl x1), (2, .inl x2)] [.inr (.inl none)] (c, σ, pr, τ) = some (.inl (some (.inl 0)), (c, σ, pr, τ)) := id rfl
theorem T83_5a (F d f r_0 : Nat) (x1 x2 : Int32) (c : Nat → Nat) (σ : mSg) (τ : mLg) :
    pL F d 83 (f + 6) 5 [(0, .inr (some (6, 0))), (1, .inl x1), (2, .inl x2)] [.inr (.inl (some (0, r_0)))] (c, σ, pr, τ) = mq_kv (pX F d 5 [.inr (some (0, r_0)), .inl x2] (c, σ, pr, τ)) (fun w M => pL F d 83 f 19 [(0, .inr (some (6, 0))), (1, .inl x1), (2, .inl x2), (3, .inr (some (0, r_0)))] (mq_psh w []) M) := id rfl
theorem T83_19 (F d f r3 : Nat) (x1 x2 x_0 : Int32) (c : Nat → Nat) (σ : mSg) (τ : mLg) :
    pL F d 83 (f + 1) 19 [(0, .inr (some (6, 0))), (1, .inl x1), (2, .inl x2), (3, .inr (some (0, r3)))] [.inl x_0] (c, σ, pr, τ) = some (.inl (some (.inl x_0)), (c, σ, pr, τ)) := id rfl
/-! PartitionKernel.error(II)I -/
theorem T84 (F d : Nat) (x1 x2 : Int32) (c : Nat → Nat) (σ : mSg) (τ : mLg) :
    pX F (d + 1) 84 [.inr (some (6, 0)), .inl x1, .inl x2] (c, σ, pr, τ) = pL F d 84 F 0 [(0, .inr (some (6, 0))), (1, .inl x1), (2, .inl x2)] [] (c, σ, pr, τ) := id rfl
theorem T84_0 (F d f : Nat) (x1 x2 : Int32) (c : Nat → Nat) (σ : mSg) (τ : mLg) :
    pL F d 84 (f + 5) 0 [(0, .inr (some (6, 0))), (1, .inl x1), (2, .inl x2)] [] (c, σ, pr, τ) = mq_kv (pX F d 10 [.inr (some (1, 0)), .inl x1, .inl x2] (c, σ, pr, τ)) (fun w M => pL F d 84 f 9 [(0, .inr (some (6, 0))), (1, .inl x1), (2, .inl x2)] (mq_psh w []) M) := id rfl
theorem T84_9 (F d f : Nat) (x1 x2 x_0 : Int32) (c : Nat → Nat) (σ : mSg) (τ : mLg) :
    pL F d 84 (f + 1) 9 [(0, .inr (some (6, 0))), (1, .inl x1), (2, .inl x2)] [.inl x_0] (c, σ, pr, τ) = some (.inl (some (.inl x_0)), (c, σ, pr, τ)) := id rfl
/-! PartitionKernel.about(I)I -/
theorem T85 (F d : Nat) (x1 : Int32) (c : Nat → Nat) (σ : mSg) (τ : mLg) :
    pX F (d + 1) 85 [.inr (some (6, 0)), .inl x1] (c, σ, pr, τ) = pL F d 85 F 0 [(0, .inr (some (6, 0))), (1, .inl x1)] [] (c, σ, pr, τ) := id rfl
theorem T85_0 (F d f : Nat) (x1 : Int32) (c : Nat → Nat) (σ : mSg) (τ : mLg) :
    pL F d 85 (f + 2) 0 [(0, .inr (some (6, 0))), (1, .inl x1)] [] (c, σ, pr, τ) = pL F d 85 f (mq_swt x1 69 [(0, 32), (1, 37), (2, 45), (3, 50)]) [(0, .inr (some (6, 0))), (1, .inl x1)] [] (c, σ, pr, τ) := id rfl
theorem T85_32 (F d f : Nat) (x1 : Int32) (c : Nat → Nat) (σ : mSg) (τ : mLg) :
    pL F d 85 (f + 3) 32 [(0, .inr (some (6, 0))), (1, .inl x1)] [] (c, σ, pr, τ) = some (.inl (some (.inl (σ 6 0 5))), (c, σ, pr, τ)) := id rfl
theorem T85_37 (F d f : Nat) (x1 : Int32) (c : Nat → Nat) (σ : mSg) (τ : mLg) :
    pL F d 85 (f + 4) 37 [(0, .inr (some (6, 0))), (1, .inl x1)] [] (c, σ, pr, τ) = some (.inl (some (.inl (σ 1 0 4))), (c, σ, pr, τ)) := id rfl
theorem T85_45 (F d f : Nat) (x1 : Int32) (c : Nat → Nat) (σ : mSg) (τ : mLg) :
    pL F d 85 (f + 3) 45 [(0, .inr (some (6, 0))), (1, .inl x1)] [] (c, σ, pr, τ) = some (.inl (some (.inl (σ 6 0 6))), (c, σ, pr, τ)) := id rfl
theorem T85_50 (F d f : Nat) (x1 : Int32) (c : Nat → Nat) (σ : mSg) (τ : mLg) :
    pL F d 85 (f + 3) 50 [(0, .inr (some (6, 0))), (1, .inl x1)] [] (c, σ, pr, τ) = (if (σ 6 0 7) = 0 then pL F d 85 f 67 [(0, .inr (some (6, 0))), (1, .inl x1)] [] (c, σ, pr, τ) else pL F d 85 f 57 [(0, .inr (some (6, 0))), (1, .inl x1)] [] (c, σ, pr, τ)) := id rfl
theorem T85_69 (F d f : Nat) (x1 : Int32) (c : Nat → Nat) (σ : mSg) (τ : mLg) :
    pL F d 85 (f + 2) 69 [(0, .inr (some (6, 0))), (1, .inl x1)] [] (c, σ, pr, τ) = some (.inl (some (.inl (-1))), (c, σ, pr, τ)) := id rfl
theorem T85_67 (F d f : Nat) (x1 : Int32) (c : Nat → Nat) (σ : mSg) (τ : mLg) :
    pL F d 85 (f + 2) 67 [(0, .inr (some (6, 0))), (1, .inl x1)] [] (c, σ, pr, τ) = some (.inl (some (.inl (-1))), (c, σ, pr, τ)) := id rfl
theorem T85_57 (F d f : Nat) (x1 : Int32) (c : Nat → Nat) (σ : mSg) (τ : mLg) :
    pL F d 85 (f + 3) 57 [(0, .inr (some (6, 0))), (1, .inl x1)] [] (c, σ, pr, τ) = mq_kv (pX F d 13 [.inr (some (2, 0))] (c, σ, pr, τ)) (fun w M => pL F d 85 f 64 [(0, .inr (some (6, 0))), (1, .inl x1)] (mq_psh w []) M) := id rfl
theorem T85_64 (F d f : Nat) (x1 x_0 : Int32) (c : Nat → Nat) (σ : mSg) (τ : mLg) :
    pL F d 85 (f + 2) 64 [(0, .inr (some (6, 0))), (1, .inl x1)] [.inl x_0] (c, σ, pr, τ) = some (.inl (some (.inl x_0)), (c, σ, pr, τ)) := id rfl
/-! PartitionKernel.isPartition(I)Z -/
theorem T86 (F d : Nat) (x0 : Int32) (c : Nat → Nat) (σ : mSg) (τ : mLg) :
    pX F (d + 1) 86 [.inl x0] (c, σ, pr, τ) = pL F d 86 F 0 [(0, .inl x0)] [] (c, σ, pr, τ) := id rfl
theorem T86_0 (F d f : Nat) (x0 : Int32) (c : Nat → Nat) (σ : mSg) (τ : mLg) :
    pL F d 86 (f + 2) 0 [(0, .inl x0)] [] (c, σ, pr, τ) = (if x0 < 0 then pL F d 86 f 13 [(0, .inl x0)] [] (c, σ, pr, τ) else pL F d 86 f 4 [(0, .inl x0)] [] (c, σ, pr, τ)) := id rfl
theorem T86_13 (F d f : Nat) (x0 : Int32) (c : Nat → Nat) (σ : mSg) (τ : mLg) :
    pL F d 86 (f + 2) 13 [(0, .inl x0)] [] (c, σ, pr, τ) = some (.inl (some (.inl 0)), (c, σ, pr, τ)) := id rfl
theorem T86_4 (F d f : Nat) (x0 : Int32) (c : Nat → Nat) (σ : mSg) (τ : mLg) :
    pL F d 86 (f + 3) 4 [(0, .inl x0)] [] (c, σ, pr, τ) = (if x0 < 4 then pL F d 86 f 9 [(0, .inl x0)] [] (c, σ, pr, τ) else pL F d 86 f 13 [(0, .inl x0)] [] (c, σ, pr, τ)) := id rfl
theorem T86_9 (F d f : Nat) (x0 : Int32) (c : Nat → Nat) (σ : mSg) (τ : mLg) :
    pL F d 86 (f + 3) 9 [(0, .inl x0)] [] (c, σ, pr, τ) = some (.inl (some (.inl 1)), (c, σ, pr, τ)) := id rfl
/-! PartitionKernel.isPriority(I)Z -/
theorem T87 (F d : Nat) (x0 : Int32) (c : Nat → Nat) (σ : mSg) (τ : mLg) :
    pX F (d + 1) 87 [.inl x0] (c, σ, pr, τ) = pL F d 87 F 0 [(0, .inl x0)] [] (c, σ, pr, τ) := id rfl
theorem T87_0 (F d f : Nat) (x0 : Int32) (c : Nat → Nat) (σ : mSg) (τ : mLg) :
    pL F d 87 (f + 2) 0 [(0, .inl x0)] [] (c, σ, pr, τ) = (if x0 < 0 then pL F d 87 f 14 [(0, .inl x0)] [] (c, σ, pr, τ) else pL F d 87 f 4 [(0, .inl x0)] [] (c, σ, pr, τ)) := id rfl
theorem T87_14 (F d f : Nat) (x0 : Int32) (c : Nat → Nat) (σ : mSg) (τ : mLg) :
    pL F d 87 (f + 2) 14 [(0, .inl x0)] [] (c, σ, pr, τ) = some (.inl (some (.inl 0)), (c, σ, pr, τ)) := id rfl
theorem T87_4 (F d f : Nat) (x0 : Int32) (c : Nat → Nat) (σ : mSg) (τ : mLg) :
    pL F d 87 (f + 3) 4 [(0, .inl x0)] [] (c, σ, pr, τ) = (if 15 < x0 then pL F d 87 f 14 [(0, .inl x0)] [] (c, σ, pr, τ) else pL F d 87 f 10 [(0, .inl x0)] [] (c, σ, pr, τ)) := id rfl
theorem T87_10 (F d f : Nat) (x0 : Int32) (c : Nat → Nat) (σ : mSg) (τ : mLg) :
    pL F d 87 (f + 3) 10 [(0, .inl x0)] [] (c, σ, pr, τ) = some (.inl (some (.inl 1)), (c, σ, pr, τ)) := id rfl
/-! PartitionKernel.isSpan(I)Z -/
theorem T88 (F d : Nat) (x0 : Int32) (c : Nat → Nat) (σ : mSg) (τ : mLg) :
    pX F (d + 1) 88 [.inl x0] (c, σ, pr, τ) = pL F d 88 F 0 [(0, .inl x0)] [] (c, σ, pr, τ) := id rfl
theorem T88_0 (F d f : Nat) (x0 : Int32) (c : Nat → Nat) (σ : mSg) (τ : mLg) :
    pL F d 88 (f + 2) 0 [(0, .inl x0)] [] (c, σ, pr, τ) = (if x0 < 0 then pL F d 88 f 14 [(0, .inl x0)] [] (c, σ, pr, τ) else pL F d 88 f 4 [(0, .inl x0)] [] (c, σ, pr, τ)) := id rfl
theorem T88_14 (F d f : Nat) (x0 : Int32) (c : Nat → Nat) (σ : mSg) (τ : mLg) :
    pL F d 88 (f + 2) 14 [(0, .inl x0)] [] (c, σ, pr, τ) = some (.inl (some (.inl 0)), (c, σ, pr, τ)) := id rfl
theorem T88_4 (F d f : Nat) (x0 : Int32) (c : Nat → Nat) (σ : mSg) (τ : mLg) :
    pL F d 88 (f + 3) 4 [(0, .inl x0)] [] (c, σ, pr, τ) = (if 100000 < x0 then pL F d 88 f 14 [(0, .inl x0)] [] (c, σ, pr, τ) else pL F d 88 f 10 [(0, .inl x0)] [] (c, σ, pr, τ)) := id rfl
theorem T88_10 (F d f : Nat) (x0 : Int32) (c : Nat → Nat) (σ : mSg) (τ : mLg) :
    pL F d 88 (f + 3) 10 [(0, .inl x0)] [] (c, σ, pr, τ) = some (.inl (some (.inl 1)), (c, σ, pr, τ)) := id rfl
/-! PartitionKernel.partitionAt(I)LPartitionKernel$Partition; -/
theorem T89 (F d : Nat) (x1 : Int32) (c : Nat → Nat) (σ : mSg) (τ : mLg) :
    pX F (d + 1) 89 [.inr (some (6, 0)), .inl x1] (c, σ, pr, τ) = pL F d 89 F 0 [(0, .inr (some (6, 0))), (1, .inl x1)] [] (c, σ, pr, τ) := id rfl
theorem T89_0 (F d f : Nat) (x1 : Int32) (c : Nat → Nat) (σ : mSg) (τ : mLg) :
    pL F d 89 (f + 2) 0 [(0, .inr (some (6, 0))), (1, .inl x1)] [] (c, σ, pr, τ) = mq_ks (pX F d 86 [.inl x1] (c, σ, pr, τ)) (fun w M => pL F d 89 f 4 [(0, .inr (some (6, 0))), (1, .inl x1)] (mq_psh w []) M) := id rfl
theorem T89_4 (F d f : Nat) (x1 x_0 : Int32) (c : Nat → Nat) (σ : mSg) (τ : mLg) :
    pL F d 89 (f + 1) 4 [(0, .inr (some (6, 0))), (1, .inl x1)] [.inl x_0] (c, σ, pr, τ) = (if x_0 = 0 then pL F d 89 f 16 [(0, .inr (some (6, 0))), (1, .inl x1)] [] (c, σ, pr, τ) else pL F d 89 f 7 [(0, .inr (some (6, 0))), (1, .inl x1)] [] (c, σ, pr, τ)) := id rfl
theorem T89_16 (F d f : Nat) (x1 : Int32) (c : Nat → Nat) (σ : mSg) (τ : mLg) :
    pL F d 89 (f + 2) 16 [(0, .inr (some (6, 0))), (1, .inl x1)] [] (c, σ, pr, τ) = some (.inl (some (.inr none)), (c, σ, pr, τ)) := id rfl
theorem T89_7 (F d f : Nat) (x1 : Int32) (c : Nat → Nat) (σ : mSg) (τ : mLg) :
    pL F d 89 (f + 6) 7 [(0, .inr (some (6, 0))), (1, .inl x1)] [] (c, σ, pr, τ) = (if x1 < 0 ∨ 4 ≤ Int32.toNatClampNeg x1 then none else some (.inl (some (.inr (some (4, (Int32.toNatClampNeg x1))))), (c, σ, pr, τ))) := id rfl
/-! PartitionKernel.processAt(II)LPartitionKernel$Proc; -/
theorem T90 (F d : Nat) (x1 x2 : Int32) (c : Nat → Nat) (σ : mSg) (τ : mLg) :
    pX F (d + 1) 90 [.inr (some (6, 0)), .inl x1, .inl x2] (c, σ, pr, τ) = pL F d 90 F 0 [(0, .inr (some (6, 0))), (1, .inl x1), (2, .inl x2)] [] (c, σ, pr, τ) := id rfl
theorem T90_0 (F d f : Nat) (x1 x2 : Int32) (c : Nat → Nat) (σ : mSg) (τ : mLg) :
    pL F d 90 (f + 3) 0 [(0, .inr (some (6, 0))), (1, .inl x1), (2, .inl x2)] [] (c, σ, pr, τ) = mq_kv (pX F d 89 [.inr (some (6, 0)), .inl x1] (c, σ, pr, τ)) (fun w M => pL F d 90 f 5 [(0, .inr (some (6, 0))), (1, .inl x1), (2, .inl x2)] (mq_psh w []) M) := id rfl
theorem T90_5 (F d f : Nat) (x1 x2 : Int32) (c : Nat → Nat) (σ : mSg) (τ : mLg) :
    pL F d 90 (f + 6) 5 [(0, .inr (some (6, 0))), (1, .inl x1), (2, .inl x2)] [.inr (.inl none)] (c, σ, pr, τ) = some (.inl (some (.inr none)), (c, σ, pr, τ)) := id rfl
theorem T90_5a (F d f r_0 : Nat) (x1 x2 : Int32) (c : Nat → Nat) (σ : mSg) (τ : mLg) :
    pL F d 90 (f + 6) 5 [(0, .inr (some (6, 0))), (1, .inl x1), (2, .inl x2)] [.inr (.inl (some (4, r_0)))] (c, σ, pr, τ) = mq_kv (pX F d 24 [.inr (some (4, r_0)), .inl x2] (c, σ, pr, τ)) (fun w M => pL F d 90 f 19 [(0, .inr (some (6, 0))), (1, .inl x1), (2, .inl x2), (3, .inr (some (4, r_0)))] (mq_psh w []) M) := id rfl
theorem T90_19 (F d f r3 : Nat) (x1 x2 : Int32) (c : Nat → Nat) (σ : mSg) (τ : mLg) :
    pL F d 90 (f + 1) 19 [(0, .inr (some (6, 0))), (1, .inl x1), (2, .inl x2), (3, .inr (some (4, r3)))] [.inr (.inl none)] (c, σ, pr, τ) = some (.inl (some (.inr none)), (c, σ, pr, τ)) := id rfl
theorem T90_19a (F d f r3 r_0 : Nat) (x1 x2 : Int32) (c : Nat → Nat) (σ : mSg) (τ : mLg) :
    pL F d 90 (f + 1) 19 [(0, .inr (some (6, 0))), (1, .inl x1), (2, .inl x2), (3, .inr (some (4, r3)))] [.inr (.inl (some (5, r_0)))] (c, σ, pr, τ) = some (.inl (some (.inr (some (5, r_0)))), (c, σ, pr, τ)) := id rfl
/-! PartitionKernel.channelAt(I)LPartitionKernel$Channel; -/
theorem T91 (F d : Nat) (x1 : Int32) (c : Nat → Nat) (σ : mSg) (τ : mLg) :
    pX F (d + 1) 91 [.inr (some (6, 0)), .inl x1] (c, σ, pr, τ) = pL F d 91 F 0 [(0, .inr (some (6, 0))), (1, .inl x1)] [] (c, σ, pr, τ) := id rfl
theorem T91_0 (F d f : Nat) (x1 : Int32) (c : Nat → Nat) (σ : mSg) (τ : mLg) :
    pL F d 91 (f + 2) 0 [(0, .inr (some (6, 0))), (1, .inl x1)] [] (c, σ, pr, τ) = (if x1 < 0 then pL F d 91 f 21 [(0, .inr (some (6, 0))), (1, .inl x1)] [] (c, σ, pr, τ) else pL F d 91 f 4 [(0, .inr (some (6, 0))), (1, .inl x1)] [] (c, σ, pr, τ)) := id rfl
theorem T91_21 (F d f : Nat) (x1 : Int32) (c : Nat → Nat) (σ : mSg) (τ : mLg) :
    pL F d 91 (f + 2) 21 [(0, .inr (some (6, 0))), (1, .inl x1)] [] (c, σ, pr, τ) = some (.inl (some (.inr none)), (c, σ, pr, τ)) := id rfl
theorem T91_4 (F d f : Nat) (x1 : Int32) (c : Nat → Nat) (σ : mSg) (τ : mLg) :
    pL F d 91 (f + 4) 4 [(0, .inr (some (6, 0))), (1, .inl x1)] [] (c, σ, pr, τ) = (if x1 < (σ 6 0 4) then pL F d 91 f 12 [(0, .inr (some (6, 0))), (1, .inl x1)] [] (c, σ, pr, τ) else pL F d 91 f 21 [(0, .inr (some (6, 0))), (1, .inl x1)] [] (c, σ, pr, τ)) := id rfl
theorem T91_12 (F d f : Nat) (x1 : Int32) (c : Nat → Nat) (σ : mSg) (τ : mLg) :
    pL F d 91 (f + 6) 12 [(0, .inr (some (6, 0))), (1, .inl x1)] [] (c, σ, pr, τ) = (if x1 < 0 ∨ 8 ≤ Int32.toNatClampNeg x1 then none else some (.inl (some (.inr (some (0, (Int32.toNatClampNeg x1))))), (c, σ, pr, τ))) := id rfl
/-! PartitionKernel.tick(LPartitionKernel$Partition;)V -/
theorem T92 (F d r1 : Nat) (c : Nat → Nat) (σ : mSg) (τ : mLg) :
    pX F (d + 1) 92 [.inr (some (6, 0)), .inr (some (4, r1))] (c, σ, pr, τ) = pL F d 92 F 0 [(0, .inr (some (6, 0))), (1, .inr (some (4, r1)))] [] (c, σ, pr, τ) := id rfl
theorem T92_0 (F d f r1 : Nat) (c : Nat → Nat) (σ : mSg) (τ : mLg) :
    pL F d 92 (f + 4) 0 [(0, .inr (some (6, 0))), (1, .inr (some (4, r1)))] [] (c, σ, pr, τ) = mq_kv (pX F d 30 [.inr (some (4, r1)), .inl (σ 6 0 5)] (c, σ, pr, τ)) (fun w M => pL F d 92 f 8 [(0, .inr (some (6, 0))), (1, .inr (some (4, r1)))] (mq_psh w []) M) := id rfl
theorem T92_8 (F d f r1 : Nat) (c : Nat → Nat) (σ : mSg) (τ : mLg) :
    pL F d 92 (f + 3) 8 [(0, .inr (some (6, 0))), (1, .inr (some (4, r1)))] [] (c, σ, pr, τ) = mq_kv (pX F d 93 [.inr (some (6, 0)), .inr (some (4, r1))] (c, σ, pr, τ)) (fun w M => pL F d 92 f 13 [(0, .inr (some (6, 0))), (1, .inr (some (4, r1)))] (mq_psh w []) M) := id rfl
theorem T92_13 (F d f r1 : Nat) (x_0 : Int32) (c : Nat → Nat) (σ : mSg) (τ : mLg) :
    pL F d 92 (f + 1) 13 [(0, .inr (some (6, 0))), (1, .inr (some (4, r1)))] [.inl x_0] (c, σ, pr, τ) = (if x_0 = 0 then pL F d 92 f 17 [(0, .inr (some (6, 0))), (1, .inr (some (4, r1)))] [] (c, σ, pr, τ) else pL F d 92 f 16 [(0, .inr (some (6, 0))), (1, .inr (some (4, r1)))] [] (c, σ, pr, τ)) := id rfl
theorem T92_17 (F d f r1 : Nat) (c : Nat → Nat) (σ : mSg) (τ : mLg) :
    pL F d 92 (f + 4) 17 [(0, .inr (some (6, 0))), (1, .inr (some (4, r1)))] [] (c, σ, pr, τ) = mq_kv (pX F d 31 [.inr (some (4, r1)), .inl 1, .inl (-1)] (c, σ, pr, τ)) (fun w M => pL F d 92 f 23 [(0, .inr (some (6, 0))), (1, .inr (some (4, r1)))] (mq_psh w []) M) := id rfl
theorem T92_16 (F d f r1 : Nat) (c : Nat → Nat) (σ : mSg) (τ : mLg) :
    pL F d 92 (f + 1) 16 [(0, .inr (some (6, 0))), (1, .inr (some (4, r1)))] [] (c, σ, pr, τ) = some (.inl (none), (c, σ, pr, τ)) := id rfl
theorem T92_23 (F d f r1 : Nat) (c : Nat → Nat) (σ : mSg) (τ : mLg) :
    pL F d 92 (f + 4) 23 [(0, .inr (some (6, 0))), (1, .inr (some (4, r1)))] [.inr (.inl none)] (c, σ, pr, τ) = some (.inl (none), (c, σ, pr, τ)) := id rfl
theorem T92_23a (F d f r1 r_0 : Nat) (c : Nat → Nat) (σ : mSg) (τ : mLg) :
    pL F d 92 (f + 19) 23 [(0, .inr (some (6, 0))), (1, .inr (some (4, r1)))] [.inr (.inl (some (5, r_0)))] (c, σ, pr, τ) = mq_ks (pX F d 50 [.inr (some (5, r_0)), .inr (some (3, r1))] (c, (mq_up (mq_up σ 5 r_0 13 ((σ 5 r_0 13) + 1)) 6 0 6 (((mq_up σ 5 r_0 13 ((σ 5 r_0 13) + 1)) 6 0 6) + 1)), pr, τ)) (fun w M => pL F d 92 f 57 [(0, .inr (some (6, 0))), (1, .inr (some (4, r1))), (2, .inr (some (5, r_0)))] (mq_psh w []) M) := id rfl
theorem T92_57 (F d f r1 r2 : Nat) (x_0 : Int32) (c : Nat → Nat) (σ : mSg) (τ : mLg) :
    pL F d 92 (f + 4) 57 [(0, .inr (some (6, 0))), (1, .inr (some (4, r1))), (2, .inr (some (5, r2)))] [.inl x_0] (c, σ, pr, τ) = (if x_0 = (-2) then pL F d 92 f 64 [(0, .inr (some (6, 0))), (1, .inr (some (4, r1))), (2, .inr (some (5, r2))), (3, .inl x_0)] [] (c, σ, pr, τ) else pL F d 92 f 71 [(0, .inr (some (6, 0))), (1, .inr (some (4, r1))), (2, .inr (some (5, r2))), (3, .inl x_0)] [] (c, σ, pr, τ)) := id rfl
theorem T92_64 (F d f r1 r2 : Nat) (x3 : Int32) (c : Nat → Nat) (σ : mSg) (τ : mLg) :
    pL F d 92 (f + 4) 64 [(0, .inr (some (6, 0))), (1, .inr (some (4, r1))), (2, .inr (some (5, r2))), (3, .inl x3)] [] (c, σ, pr, τ) = mq_kv (pX F d 95 [.inr (some (6, 0)), .inr (some (4, r1)), .inr (some (5, r2))] (c, σ, pr, τ)) (fun w M => pL F d 92 f 70 [(0, .inr (some (6, 0))), (1, .inr (some (4, r1))), (2, .inr (some (5, r2))), (3, .inl x3)] (mq_psh w []) M) := id rfl
theorem T92_71 (F d f r1 r2 : Nat) (x3 : Int32) (c : Nat → Nat) (σ : mSg) (τ : mLg) :
    pL F d 92 (f + 3) 71 [(0, .inr (some (6, 0))), (1, .inr (some (4, r1))), (2, .inr (some (5, r2))), (3, .inl x3)] [] (c, σ, pr, τ) = (if x3 = (-1) then pL F d 92 f 84 [(0, .inr (some (6, 0))), (1, .inr (some (4, r1))), (2, .inr (some (5, r2))), (3, .inl x3)] [] (c, σ, pr, τ) else pL F d 92 f 76 [(0, .inr (some (6, 0))), (1, .inr (some (4, r1))), (2, .inr (some (5, r2))), (3, .inl x3)] [] (c, σ, pr, τ)) := id rfl
theorem T92_70 (F d f r1 r2 : Nat) (x3 x_0 : Int32) (c : Nat → Nat) (σ : mSg) (τ : mLg) :
    pL F d 92 (f + 4) 70 [(0, .inr (some (6, 0))), (1, .inr (some (4, r1))), (2, .inr (some (5, r2))), (3, .inl x3)] [.inl x_0] (c, σ, pr, τ) = (if x_0 = (-1) then pL F d 92 f 84 [(0, .inr (some (6, 0))), (1, .inr (some (4, r1))), (2, .inr (some (5, r2))), (3, .inl x_0)] [] (c, σ, pr, τ) else pL F d 92 f 76 [(0, .inr (some (6, 0))), (1, .inr (some (4, r1))), (2, .inr (some (5, r2))), (3, .inl x_0)] [] (c, σ, pr, τ)) := id rfl
theorem T92_84 (F d f r1 r2 : Nat) (x3 : Int32) (c : Nat → Nat) (σ : mSg) (τ : mLg) :
    pL F d 92 (f + 1) 84 [(0, .inr (some (6, 0))), (1, .inr (some (4, r1))), (2, .inr (some (5, r2))), (3, .inl x3)] [] (c, σ, pr, τ) = some (.inl (none), (c, σ, pr, τ)) := id rfl
theorem T92_76 (F d f r1 r2 : Nat) (x3 : Int32) (c : Nat → Nat) (σ : mSg) (τ : mLg) :
    pL F d 92 (f + 5) 76 [(0, .inr (some (6, 0))), (1, .inr (some (4, r1))), (2, .inr (some (5, r2))), (3, .inl x3)] [] (c, σ, pr, τ) = mq_kv (pX F d 94 [.inr (some (6, 0)), .inr (some (4, r1)), .inr (some (5, r2)), .inl x3] (c, σ, pr, τ)) (fun w M => pL F d 92 f 83 [(0, .inr (some (6, 0))), (1, .inr (some (4, r1))), (2, .inr (some (5, r2))), (3, .inl x3)] (mq_psh w []) M) := id rfl
theorem T92_83 (F d f r1 r2 : Nat) (x3 x_0 : Int32) (c : Nat → Nat) (σ : mSg) (τ : mLg) :
    pL F d 92 (f + 2) 83 [(0, .inr (some (6, 0))), (1, .inr (some (4, r1))), (2, .inr (some (5, r2))), (3, .inl x3)] [.inl x_0] (c, σ, pr, τ) = some (.inl (none), (c, σ, pr, τ)) := id rfl
/-! PartitionKernel.dueErrorsEndTick(LPartitionKernel$Partition;)Z -/
theorem T93 (F d r1 : Nat) (c : Nat → Nat) (σ : mSg) (τ : mLg) :
    pX F (d + 1) 93 [.inr (some (6, 0)), .inr (some (4, r1))] (c, σ, pr, τ) = pL F d 93 F 0 [(0, .inr (some (6, 0))), (1, .inr (some (4, r1)))] [] (c, σ, pr, τ) := id rfl
theorem T93_0 (F d f r1 : Nat) (c : Nat → Nat) (σ : mSg) (τ : mLg) :
    pL F d 93 (f + 2) 0 [(0, .inr (some (6, 0))), (1, .inr (some (4, r1)))] [] (c, σ, pr, τ) = pL F d 93 f 2 [(0, .inr (some (6, 0))), (1, .inr (some (4, r1))), (2, .inl 0)] [] (c, σ, pr, τ) := id rfl
theorem T93_2 (F d f r1 : Nat) (x2 : Int32) (c : Nat → Nat) (σ : mSg) (τ : mLg) :
    pL F d 93 (f + 4) 2 [(0, .inr (some (6, 0))), (1, .inr (some (4, r1))), (2, .inl x2)] [] (c, σ, pr, τ) = (if x2 < (σ 4 r1 5) then pL F d 93 f 10 [(0, .inr (some (6, 0))), (1, .inr (some (4, r1))), (2, .inl x2)] [] (c, σ, pr, τ) else pL F d 93 f 51 [(0, .inr (some (6, 0))), (1, .inr (some (4, r1))), (2, .inl x2)] [] (c, σ, pr, τ)) := id rfl
theorem T93_10 (F d f r1 : Nat) (x2 : Int32) (c : Nat → Nat) (σ : mSg) (τ : mLg) :
    pL F d 93 (f + 9) 10 [(0, .inr (some (6, 0))), (1, .inr (some (4, r1))), (2, .inl x2)] [] (c, σ, pr, τ) = (if x2 < 0 ∨ 8 ≤ Int32.toNatClampNeg x2 then none else mq_kv (pX F d 47 [.inr (some (5, (8 * r1 + Int32.toNatClampNeg x2))), .inl (σ 6 0 5)] (c, σ, pr, τ)) (fun w M => pL F d 93 f 25 [(0, .inr (some (6, 0))), (1, .inr (some (4, r1))), (2, .inl x2), (3, .inr (some (5, (8 * r1 + Int32.toNatClampNeg x2))))] (mq_psh w []) M)) := id rfl
theorem T93_51 (F d f r1 : Nat) (x2 : Int32) (c : Nat → Nat) (σ : mSg) (τ : mLg) :
    pL F d 93 (f + 2) 51 [(0, .inr (some (6, 0))), (1, .inr (some (4, r1))), (2, .inl x2)] [] (c, σ, pr, τ) = some (.inl (some (.inl 0)), (c, σ, pr, τ)) := id rfl
theorem T93_25 (F d f r1 r3 : Nat) (x2 x_0 : Int32) (c : Nat → Nat) (σ : mSg) (τ : mLg) :
    pL F d 93 (f + 1) 25 [(0, .inr (some (6, 0))), (1, .inr (some (4, r1))), (2, .inl x2), (3, .inr (some (5, r3)))] [.inl x_0] (c, σ, pr, τ) = (if x_0 = 0 then pL F d 93 f 45 [(0, .inr (some (6, 0))), (1, .inr (some (4, r1))), (2, .inl x2), (3, .inr (some (5, r3)))] [] (c, σ, pr, τ) else pL F d 93 f 28 [(0, .inr (some (6, 0))), (1, .inr (some (4, r1))), (2, .inl x2), (3, .inr (some (5, r3)))] [] (c, σ, pr, τ)) := id rfl
theorem T93_45 (F d f r1 r3 : Nat) (x2 : Int32) (c : Nat → Nat) (σ : mSg) (τ : mLg) :
    pL F d 93 (f + 2) 45 [(0, .inr (some (6, 0))), (1, .inr (some (4, r1))), (2, .inl x2), (3, .inr (some (5, r3)))] [] (c, σ, pr, τ) = pL F d 93 f 2 [(0, .inr (some (6, 0))), (1, .inr (some (4, r1))), (2, .inl (x2 + 1)), (3, .inr (some (5, r3)))] [] (c, σ, pr, τ) := id rfl
theorem T93_28 (F d f r1 r3 : Nat) (x2 : Int32) (c : Nat → Nat) (σ : mSg) (τ : mLg) :
    pL F d 93 (f + 8) 28 [(0, .inr (some (6, 0))), (1, .inr (some (4, r1))), (2, .inl x2), (3, .inr (some (5, r3)))] [] (c, σ, pr, τ) = mq_kv (pX F d 94 [.inr (some (6, 0)), .inr (some (4, r1)), .inr (some (5, r3)), .inl 2] (c, (mq_up σ 5 r3 8 (-1)), pr, τ)) (fun w M => pL F d 93 f 40 [(0, .inr (some (6, 0))), (1, .inr (some (4, r1))), (2, .inl x2), (3, .inr (some (5, r3)))] (mq_psh w []) M) := id rfl
theorem T93_2a (F d f r1 r3 : Nat) (x2 : Int32) (c : Nat → Nat) (σ : mSg) (τ : mLg) :
    pL F d 93 (f + 4) 2 [(0, .inr (some (6, 0))), (1, .inr (some (4, r1))), (2, .inl x2), (3, .inr (some (5, r3)))] [] (c, σ, pr, τ) = (if x2 < (σ 4 r1 5) then pL F d 93 f 10 [(0, .inr (some (6, 0))), (1, .inr (some (4, r1))), (2, .inl x2), (3, .inr (some (5, r3)))] [] (c, σ, pr, τ) else pL F d 93 f 51 [(0, .inr (some (6, 0))), (1, .inr (some (4, r1))), (2, .inl x2), (3, .inr (some (5, r3)))] [] (c, σ, pr, τ)) := id rfl
theorem T93_40 (F d f r1 r3 : Nat) (x2 x_0 : Int32) (c : Nat → Nat) (σ : mSg) (τ : mLg) :
    pL F d 93 (f + 1) 40 [(0, .inr (some (6, 0))), (1, .inr (some (4, r1))), (2, .inl x2), (3, .inr (some (5, r3)))] [.inl x_0] (c, σ, pr, τ) = (if x_0 = 0 then pL F d 93 f 45 [(0, .inr (some (6, 0))), (1, .inr (some (4, r1))), (2, .inl x2), (3, .inr (some (5, r3)))] [] (c, σ, pr, τ) else pL F d 93 f 43 [(0, .inr (some (6, 0))), (1, .inr (some (4, r1))), (2, .inl x2), (3, .inr (some (5, r3)))] [] (c, σ, pr, τ)) := id rfl
theorem T93_10a (F d f r1 r3 : Nat) (x2 : Int32) (c : Nat → Nat) (σ : mSg) (τ : mLg) :
    pL F d 93 (f + 9) 10 [(0, .inr (some (6, 0))), (1, .inr (some (4, r1))), (2, .inl x2), (3, .inr (some (5, r3)))] [] (c, σ, pr, τ) = (if x2 < 0 ∨ 8 ≤ Int32.toNatClampNeg x2 then none else mq_kv (pX F d 47 [.inr (some (5, (8 * r1 + Int32.toNatClampNeg x2))), .inl (σ 6 0 5)] (c, σ, pr, τ)) (fun w M => pL F d 93 f 25 [(0, .inr (some (6, 0))), (1, .inr (some (4, r1))), (2, .inl x2), (3, .inr (some (5, (8 * r1 + Int32.toNatClampNeg x2))))] (mq_psh w []) M)) := id rfl
theorem T93_51a (F d f r1 r3 : Nat) (x2 : Int32) (c : Nat → Nat) (σ : mSg) (τ : mLg) :
    pL F d 93 (f + 2) 51 [(0, .inr (some (6, 0))), (1, .inr (some (4, r1))), (2, .inl x2), (3, .inr (some (5, r3)))] [] (c, σ, pr, τ) = some (.inl (some (.inl 0)), (c, σ, pr, τ)) := id rfl
theorem T93_43 (F d f r1 r3 : Nat) (x2 : Int32) (c : Nat → Nat) (σ : mSg) (τ : mLg) :
    pL F d 93 (f + 2) 43 [(0, .inr (some (6, 0))), (1, .inr (some (4, r1))), (2, .inl x2), (3, .inr (some (5, r3)))] [] (c, σ, pr, τ) = some (.inl (some (.inl 1)), (c, σ, pr, τ)) := id rfl
/-! PartitionKernel.fails(LPartitionKernel$Partition;LPartitionKernel$Proc;I)Z -/
theorem T94 (F d r1 r2 : Nat) (x3 : Int32) (c : Nat → Nat) (σ : mSg) (τ : mLg) :
    pX F (d + 1) 94 [.inr (some (6, 0)), .inr (some (4, r1)), .inr (some (5, r2)), .inl x3] (c, σ, pr, τ) = pL F d 94 F 0 [(0, .inr (some (6, 0))), (1, .inr (some (4, r1))), (2, .inr (some (5, r2))), (3, .inl x3)] [] (c, σ, pr, τ) := id rfl
theorem T94_0 (F d f r1 r2 : Nat) (x3 : Int32) (c : Nat → Nat) (σ : mSg) (τ : mLg) :
    pL F d 94 (f + 10) 0 [(0, .inr (some (6, 0))), (1, .inr (some (4, r1))), (2, .inr (some (5, r2))), (3, .inl x3)] [] (c, σ, pr, τ) = mq_kv (pX F d 9 [.inr (some (1, 0)), .inl (σ 6 0 5), .inl (σ 4 r1 0), .inl (σ 5 r2 0), .inl x3] (c, σ, pr, τ)) (fun w M => pL F d 94 f 20 [(0, .inr (some (6, 0))), (1, .inr (some (4, r1))), (2, .inr (some (5, r2))), (3, .inl x3)] (mq_psh w []) M) := id rfl
theorem T94_20 (F d f r1 r2 : Nat) (x3 : Int32) (c : Nat → Nat) (σ : mSg) (τ : mLg) :
    pL F d 94 (f + 3) 20 [(0, .inr (some (6, 0))), (1, .inr (some (4, r1))), (2, .inr (some (5, r2))), (3, .inl x3)] [] (c, σ, pr, τ) = mq_kv (pX F d 25 [.inr (some (4, r1)), .inl x3] (c, σ, pr, τ)) (fun w M => pL F d 94 f 25 [(0, .inr (some (6, 0))), (1, .inr (some (4, r1))), (2, .inr (some (5, r2))), (3, .inl x3)] (mq_psh w []) M) := id rfl
theorem T94_25 (F d f r1 r2 : Nat) (x3 x_0 : Int32) (c : Nat → Nat) (σ : mSg) (τ : mLg) :
    pL F d 94 (f + 1) 25 [(0, .inr (some (6, 0))), (1, .inr (some (4, r1))), (2, .inr (some (5, r2))), (3, .inl x3)] [.inl x_0] (c, σ, pr, τ) = pL F d 94 f (mq_swt x_0 101 [(1, 56), (2, 63), (3, 74), (4, 94)]) [(0, .inr (some (6, 0))), (1, .inr (some (4, r1))), (2, .inr (some (5, r2))), (3, .inl x3)] [] (c, σ, pr, τ) := id rfl
theorem T94_56 (F d f r1 r2 : Nat) (x3 : Int32) (c : Nat → Nat) (σ : mSg) (τ : mLg) :
    pL F d 94 (f + 3) 56 [(0, .inr (some (6, 0))), (1, .inr (some (4, r1))), (2, .inr (some (5, r2))), (3, .inl x3)] [] (c, σ, pr, τ) = mq_kv (pX F d 29 [.inr (some (4, r1)), .inr (some (5, r2))] (c, σ, pr, τ)) (fun w M => pL F d 94 f 61 [(0, .inr (some (6, 0))), (1, .inr (some (4, r1))), (2, .inr (some (5, r2))), (3, .inl x3)] (mq_psh w []) M) := id rfl
theorem T94_63 (F d f r1 r2 : Nat) (x3 : Int32) (c : Nat → Nat) (σ : mSg) (τ : mLg) :
    pL F d 94 (f + 5) 63 [(0, .inr (some (6, 0))), (1, .inr (some (4, r1))), (2, .inr (some (5, r2))), (3, .inl x3)] [] (c, σ, pr, τ) = mq_kv (pX F d 27 [.inr (some (4, r1)), .inr (some (5, r2)), .inl (σ 6 0 5)] (c, σ, pr, τ)) (fun w M => pL F d 94 f 72 [(0, .inr (some (6, 0))), (1, .inr (some (4, r1))), (2, .inr (some (5, r2))), (3, .inl x3)] (mq_psh w []) M) := id rfl
theorem T94_74 (F d f r1 r2 : Nat) (x3 : Int32) (c : Nat → Nat) (σ : mSg) (τ : mLg) :
    pL F d 94 (f + 4) 74 [(0, .inr (some (6, 0))), (1, .inr (some (4, r1))), (2, .inr (some (5, r2))), (3, .inl x3)] [] (c, σ, pr, τ) = mq_kv (pX F d 28 [.inr (some (4, r1)), .inl (σ 6 0 5)] (c, σ, pr, τ)) (fun w M => pL F d 94 f 82 [(0, .inr (some (6, 0))), (1, .inr (some (4, r1))), (2, .inr (some (5, r2))), (3, .inl x3)] (mq_psh w []) M) := id rfl
theorem T94_94 (F d f r1 r2 : Nat) (x3 : Int32) (c : Nat → Nat) (σ : mSg) (τ : mLg) :
    pL F d 94 (f + 5) 94 [(0, .inr (some (6, 0))), (1, .inr (some (4, r1))), (2, .inr (some (5, r2))), (3, .inl x3)] [] (c, σ, pr, τ) = some (.inl (some (.inl 1)), (c, (mq_up σ 4 r1 8 1), pr, τ)) := id rfl
theorem T94_101 (F d f r1 r2 : Nat) (x3 : Int32) (c : Nat → Nat) (σ : mSg) (τ : mLg) :
    pL F d 94 (f + 3) 101 [(0, .inr (some (6, 0))), (1, .inr (some (4, r1))), (2, .inr (some (5, r2))), (3, .inl x3)] [] (c, σ, pr, τ) = (if x3 = 2 then pL F d 94 f 116 [(0, .inr (some (6, 0))), (1, .inr (some (4, r1))), (2, .inr (some (5, r2))), (3, .inl x3)] [] (c, σ, pr, τ) else pL F d 94 f 106 [(0, .inr (some (6, 0))), (1, .inr (some (4, r1))), (2, .inr (some (5, r2))), (3, .inl x3)] [] (c, σ, pr, τ)) := id rfl
theorem T94_61 (F d f r1 r2 : Nat) (x3 : Int32) (c : Nat → Nat) (σ : mSg) (τ : mLg) :
    pL F d 94 (f + 2) 61 [(0, .inr (some (6, 0))), (1, .inr (some (4, r1))), (2, .inr (some (5, r2))), (3, .inl x3)] [] (c, σ, pr, τ) = some (.inl (some (.inl 0)), (c, σ, pr, τ)) := id rfl
theorem T94_72 (F d f r1 r2 : Nat) (x3 : Int32) (c : Nat → Nat) (σ : mSg) (τ : mLg) :
    pL F d 94 (f + 2) 72 [(0, .inr (some (6, 0))), (1, .inr (some (4, r1))), (2, .inr (some (5, r2))), (3, .inl x3)] [] (c, σ, pr, τ) = some (.inl (some (.inl 0)), (c, σ, pr, τ)) := id rfl
theorem T94_82 (F d f r1 r2 : Nat) (x3 : Int32) (c : Nat → Nat) (σ : mSg) (τ : mLg) :
    pL F d 94 (f + 8) 82 [(0, .inr (some (6, 0))), (1, .inr (some (4, r1))), (2, .inr (some (5, r2))), (3, .inl x3)] [] (c, σ, pr, τ) = some (.inl (some (.inl 1)), (c, (mq_up σ 4 r1 7 ((σ 4 r1 7) + 1)), pr, τ)) := id rfl
theorem T94_116 (F d f r1 r2 : Nat) (x3 : Int32) (c : Nat → Nat) (σ : mSg) (τ : mLg) :
    pL F d 94 (f + 2) 116 [(0, .inr (some (6, 0))), (1, .inr (some (4, r1))), (2, .inr (some (5, r2))), (3, .inl x3)] [] (c, σ, pr, τ) = some (.inl (some (.inl 0)), (c, σ, pr, τ)) := id rfl
theorem T94_106 (F d f r1 r2 : Nat) (x3 : Int32) (c : Nat → Nat) (σ : mSg) (τ : mLg) :
    pL F d 94 (f + 8) 106 [(0, .inr (some (6, 0))), (1, .inr (some (4, r1))), (2, .inr (some (5, r2))), (3, .inl x3)] [] (c, σ, pr, τ) = some (.inl (some (.inl 0)), (c, (mq_up σ 5 r2 6 ((σ 5 r2 6) + 4)), pr, τ)) := id rfl
/-! PartitionKernel.serve(LPartitionKernel$Partition;LPartitionKernel$Proc;)I -/
theorem T95 (F d r1 r2 : Nat) (c : Nat → Nat) (σ : mSg) (τ : mLg) :
    pX F (d + 1) 95 [.inr (some (6, 0)), .inr (some (4, r1)), .inr (some (5, r2))] (c, σ, pr, τ) = pL F d 95 F 0 [(0, .inr (some (6, 0))), (1, .inr (some (4, r1))), (2, .inr (some (5, r2)))] [] (c, σ, pr, τ) := id rfl
theorem T95_0 (F d f r1 r2 : Nat) (c : Nat → Nat) (σ : mSg) (τ : mLg) :
    pL F d 95 (f + 3) 0 [(0, .inr (some (6, 0))), (1, .inr (some (4, r1))), (2, .inr (some (5, r2)))] [] (c, σ, pr, τ) = mq_kv (pX F d 43 [.inr (some (5, r2)), .inl 17] (c, σ, pr, τ)) (fun w M => pL F d 95 f 6 [(0, .inr (some (6, 0))), (1, .inr (some (4, r1))), (2, .inr (some (5, r2)))] (mq_psh w []) M) := id rfl
theorem T95_6 (F d f r1 r2 : Nat) (x_0 : Int32) (c : Nat → Nat) (σ : mSg) (τ : mLg) :
    pL F d 95 (f + 4) 6 [(0, .inr (some (6, 0))), (1, .inr (some (4, r1))), (2, .inr (some (5, r2)))] [.inl x_0] (c, σ, pr, τ) = (if x_0 = 10 then pL F d 95 f 13 [(0, .inr (some (6, 0))), (1, .inr (some (4, r1))), (2, .inr (some (5, r2))), (3, .inl x_0)] [] (c, σ, pr, τ) else pL F d 95 f 15 [(0, .inr (some (6, 0))), (1, .inr (some (4, r1))), (2, .inr (some (5, r2))), (3, .inl x_0)] [] (c, σ, pr, τ)) := id rfl
theorem T95_13 (F d f r1 r2 : Nat) (x3 : Int32) (c : Nat → Nat) (σ : mSg) (τ : mLg) :
    pL F d 95 (f + 2) 13 [(0, .inr (some (6, 0))), (1, .inr (some (4, r1))), (2, .inr (some (5, r2))), (3, .inl x3)] [] (c, σ, pr, τ) = some (.inl (some (.inl 3)), (c, σ, pr, τ)) := id rfl
theorem T95_15 (F d f r1 r2 : Nat) (x3 : Int32) (c : Nat → Nat) (σ : mSg) (τ : mLg) :
    pL F d 95 (f + 2) 15 [(0, .inr (some (6, 0))), (1, .inr (some (4, r1))), (2, .inr (some (5, r2))), (3, .inl x3)] [] (c, σ, pr, τ) = (if x3 < 0 then pL F d 95 f 25 [(0, .inr (some (6, 0))), (1, .inr (some (4, r1))), (2, .inr (some (5, r2))), (3, .inl x3)] [] (c, σ, pr, τ) else pL F d 95 f 19 [(0, .inr (some (6, 0))), (1, .inr (some (4, r1))), (2, .inr (some (5, r2))), (3, .inl x3)] [] (c, σ, pr, τ)) := id rfl
theorem T95_25 (F d f r1 r2 : Nat) (x3 : Int32) (c : Nat → Nat) (σ : mSg) (τ : mLg) :
    pL F d 95 (f + 2) 25 [(0, .inr (some (6, 0))), (1, .inr (some (4, r1))), (2, .inr (some (5, r2))), (3, .inl x3)] [] (c, σ, pr, τ) = some (.inl (some (.inl 0)), (c, σ, pr, τ)) := id rfl
theorem T95_19 (F d f r1 r2 : Nat) (x3 : Int32) (c : Nat → Nat) (σ : mSg) (τ : mLg) :
    pL F d 95 (f + 3) 19 [(0, .inr (some (6, 0))), (1, .inr (some (4, r1))), (2, .inr (some (5, r2))), (3, .inl x3)] [] (c, σ, pr, τ) = (if 10 < x3 then pL F d 95 f 25 [(0, .inr (some (6, 0))), (1, .inr (some (4, r1))), (2, .inr (some (5, r2))), (3, .inl x3)] [] (c, σ, pr, τ) else pL F d 95 f 27 [(0, .inr (some (6, 0))), (1, .inr (some (4, r1))), (2, .inr (some (5, r2))), (3, .inl x3)] [] (c, σ, pr, τ)) := id rfl
theorem T95_27 (F d f r1 r2 : Nat) (x3 : Int32) (c : Nat → Nat) (σ : mSg) (τ : mLg) :
    pL F d 95 (f + 8) 27 [(0, .inr (some (6, 0))), (1, .inr (some (4, r1))), (2, .inr (some (5, r2))), (3, .inl x3)] [] (c, σ, pr, τ) = (if x3 = 0 then pL F d 95 f 41 [(0, .inr (some (6, 0))), (1, .inr (some (4, r1))), (2, .inr (some (5, r2))), (3, .inl x3)] [] (c, (mq_up σ 5 r2 6 ((σ 5 r2 6) + 4)), pr, τ) else pL F d 95 f 49 [(0, .inr (some (6, 0))), (1, .inr (some (4, r1))), (2, .inr (some (5, r2))), (3, .inl x3)] [] (c, (mq_up σ 5 r2 6 ((σ 5 r2 6) + 4)), pr, τ)) := id rfl
theorem T95_41 (F d f r1 r2 : Nat) (x3 : Int32) (c : Nat → Nat) (σ : mSg) (τ : mLg) :
    pL F d 95 (f + 3) 41 [(0, .inr (some (6, 0))), (1, .inr (some (4, r1))), (2, .inr (some (5, r2))), (3, .inl x3)] [] (c, σ, pr, τ) = mq_kv (pX F d 29 [.inr (some (4, r1)), .inr (some (5, r2))] (c, σ, pr, τ)) (fun w M => pL F d 95 f 46 [(0, .inr (some (6, 0))), (1, .inr (some (4, r1))), (2, .inr (some (5, r2))), (3, .inl x3)] (mq_psh w []) M) := id rfl
theorem T95_49 (F d f r1 r2 : Nat) (x3 : Int32) (c : Nat → Nat) (σ : mSg) (τ : mLg) :
    pL F d 95 (f + 7) 49 [(0, .inr (some (6, 0))), (1, .inr (some (4, r1))), (2, .inr (some (5, r2))), (3, .inl x3)] [] (c, σ, pr, τ) = mq_kv (pX F d 96 [.inr (some (6, 0)), .inl x3, .inr (some (4, r1)), .inr (some (5, r2))] (c, σ, pr, τ)) (fun w M => pL F d 95 f 59 [(0, .inr (some (6, 0))), (1, .inr (some (4, r1))), (2, .inr (some (5, r2))), (3, .inl x3)] (mq_psh w [.inl 10, .inr (.inl (some (5, r2)))]) M) := id rfl
theorem T95_46 (F d f r1 r2 : Nat) (x3 : Int32) (c : Nat → Nat) (σ : mSg) (τ : mLg) :
    pL F d 95 (f + 3) 46 [(0, .inr (some (6, 0))), (1, .inr (some (4, r1))), (2, .inr (some (5, r2))), (3, .inl x3)] [] (c, σ, pr, τ) = some (.inl (some (.inl (-1))), (c, σ, pr, τ)) := id rfl
theorem T95_59 (F d f r1 r2 r_2 : Nat) (x3 x_0 x_1 : Int32) (c : Nat → Nat) (σ : mSg) (τ : mLg) :
    pL F d 95 (f + 1) 59 [(0, .inr (some (6, 0))), (1, .inr (some (4, r1))), (2, .inr (some (5, r2))), (3, .inl x3)] [.inl x_0, .inl x_1, .inr (.inl (some (5, r_2)))] (c, σ, pr, τ) = mq_kv (pX F d 44 [.inr (some (5, r_2)), .inl x_1, .inl x_0] (c, σ, pr, τ)) (fun w M => pL F d 95 f 62 [(0, .inr (some (6, 0))), (1, .inr (some (4, r1))), (2, .inr (some (5, r2))), (3, .inl x3)] (mq_psh w []) M) := id rfl
theorem T95_62 (F d f r1 r2 : Nat) (x3 : Int32) (c : Nat → Nat) (σ : mSg) (τ : mLg) :
    pL F d 95 (f + 2) 62 [(0, .inr (some (6, 0))), (1, .inr (some (4, r1))), (2, .inr (some (5, r2))), (3, .inl x3)] [] (c, σ, pr, τ) = some (.inl (some (.inl (-1))), (c, σ, pr, τ)) := id rfl
/-! PartitionKernel.answer(ILPartitionKernel$Partition;LPartitionKernel$Proc;)I -/
theorem T96 (F d r2 r3 : Nat) (x1 : Int32) (c : Nat → Nat) (σ : mSg) (τ : mLg) :
    pX F (d + 1) 96 [.inr (some (6, 0)), .inl x1, .inr (some (4, r2)), .inr (some (5, r3))] (c, σ, pr, τ) = pL F d 96 F 0 [(0, .inr (some (6, 0))), (1, .inl x1), (2, .inr (some (4, r2))), (3, .inr (some (5, r3)))] [] (c, σ, pr, τ) := id rfl
theorem T96_0 (F d f r2 r3 : Nat) (x1 : Int32) (c : Nat → Nat) (σ : mSg) (τ : mLg) :
    pL F d 96 (f + 3) 0 [(0, .inr (some (6, 0))), (1, .inl x1), (2, .inr (some (4, r2))), (3, .inr (some (5, r3)))] [] (c, σ, pr, τ) = mq_kv (pX F d 43 [.inr (some (5, r3)), .inl 10] (c, σ, pr, τ)) (fun w M => pL F d 96 f 6 [(0, .inr (some (6, 0))), (1, .inl x1), (2, .inr (some (4, r2))), (3, .inr (some (5, r3)))] (mq_psh w []) M) := id rfl
theorem T96_6 (F d f r2 r3 : Nat) (x1 x_0 : Int32) (c : Nat → Nat) (σ : mSg) (τ : mLg) :
    pL F d 96 (f + 4) 6 [(0, .inr (some (6, 0))), (1, .inl x1), (2, .inr (some (4, r2))), (3, .inr (some (5, r3)))] [.inl x_0] (c, σ, pr, τ) = mq_kv (pX F d 43 [.inr (some (5, r3)), .inl 11] (c, σ, pr, τ)) (fun w M => pL F d 96 f 14 [(0, .inr (some (6, 0))), (1, .inl x1), (2, .inr (some (4, r2))), (3, .inr (some (5, r3))), (4, .inl x_0)] (mq_psh w []) M) := id rfl
theorem T96_14 (F d f r2 r3 : Nat) (x1 x4 x_0 : Int32) (c : Nat → Nat) (σ : mSg) (τ : mLg) :
    pL F d 96 (f + 3) 14 [(0, .inr (some (6, 0))), (1, .inl x1), (2, .inr (some (4, r2))), (3, .inr (some (5, r3))), (4, .inl x4)] [.inl x_0] (c, σ, pr, τ) = pL F d 96 f (mq_swt x1 132 [(1, 64), (2, 70), (3, 82), (4, 93), (5, 102), (6, 107), (7, 115), (8, 122)]) [(0, .inr (some (6, 0))), (1, .inl x1), (2, .inr (some (4, r2))), (3, .inr (some (5, r3))), (4, .inl x4), (5, .inl x_0)] [] (c, σ, pr, τ) := id rfl
theorem T96_64 (F d f r2 r3 : Nat) (x1 x4 x5 : Int32) (c : Nat → Nat) (σ : mSg) (τ : mLg) :
    pL F d 96 (f + 3) 64 [(0, .inr (some (6, 0))), (1, .inl x1), (2, .inr (some (4, r2))), (3, .inr (some (5, r3))), (4, .inl x4), (5, .inl x5)] [] (c, σ, pr, τ) = mq_kv (pX F d 32 [.inr (some (4, r2)), .inr (some (5, r3))] (c, σ, pr, τ)) (fun w M => pL F d 96 f 69 [(0, .inr (some (6, 0))), (1, .inl x1), (2, .inr (some (4, r2))), (3, .inr (some (5, r3))), (4, .inl x4), (5, .inl x5)] (mq_psh w []) M) := id rfl
theorem T96_70 (F d f r2 r3 : Nat) (x1 x4 x5 : Int32) (c : Nat → Nat) (σ : mSg) (τ : mLg) :
    pL F d 96 (f + 6) 70 [(0, .inr (some (6, 0))), (1, .inl x1), (2, .inr (some (4, r2))), (3, .inr (some (5, r3))), (4, .inl x4), (5, .inl x5)] [] (c, σ, pr, τ) = mq_kv (pX F d 33 [.inr (some (4, r2)), .inr (some (5, r3)), .inl x4, .inl (σ 6 0 5)] (c, σ, pr, τ)) (fun w M => pL F d 96 f 81 [(0, .inr (some (6, 0))), (1, .inl x1), (2, .inr (some (4, r2))), (3, .inr (some (5, r3))), (4, .inl x4), (5, .inl x5)] (mq_psh w []) M) := id rfl
theorem T96_82 (F d f r2 r3 : Nat) (x1 x4 x5 : Int32) (c : Nat → Nat) (σ : mSg) (τ : mLg) :
    pL F d 96 (f + 5) 82 [(0, .inr (some (6, 0))), (1, .inl x1), (2, .inr (some (4, r2))), (3, .inr (some (5, r3))), (4, .inl x4), (5, .inl x5)] [] (c, σ, pr, τ) = mq_kv (pX F d 34 [.inr (some (4, r2)), .inl x4, .inl (σ 6 0 5)] (c, σ, pr, τ)) (fun w M => pL F d 96 f 92 [(0, .inr (some (6, 0))), (1, .inl x1), (2, .inr (some (4, r2))), (3, .inr (some (5, r3))), (4, .inl x4), (5, .inl x5)] (mq_psh w []) M) := id rfl
theorem T96_93 (F d f r2 r3 : Nat) (x1 x4 x5 : Int32) (c : Nat → Nat) (σ : mSg) (τ : mLg) :
    pL F d 96 (f + 4) 93 [(0, .inr (some (6, 0))), (1, .inl x1), (2, .inr (some (4, r2))), (3, .inr (some (5, r3))), (4, .inl x4), (5, .inl x5)] [] (c, σ, pr, τ) = mq_kv (pX F d 35 [.inr (some (4, r2)), .inl x4, .inl x5] (c, σ, pr, τ)) (fun w M => pL F d 96 f 101 [(0, .inr (some (6, 0))), (1, .inl x1), (2, .inr (some (4, r2))), (3, .inr (some (5, r3))), (4, .inl x4), (5, .inl x5)] (mq_psh w []) M) := id rfl
theorem T96_102 (F d f r2 r3 : Nat) (x1 x4 x5 : Int32) (c : Nat → Nat) (σ : mSg) (τ : mLg) :
    pL F d 96 (f + 3) 102 [(0, .inr (some (6, 0))), (1, .inl x1), (2, .inr (some (4, r2))), (3, .inr (some (5, r3))), (4, .inl x4), (5, .inl x5)] [] (c, σ, pr, τ) = some (.inl (some (.inl (σ 6 0 5))), (c, σ, pr, τ)) := id rfl
theorem T96_107 (F d f r2 r3 : Nat) (x1 x4 x5 : Int32) (c : Nat → Nat) (σ : mSg) (τ : mLg) :
    pL F d 96 (f + 4) 107 [(0, .inr (some (6, 0))), (1, .inl x1), (2, .inr (some (4, r2))), (3, .inr (some (5, r3))), (4, .inl x4), (5, .inl x5)] [] (c, σ, pr, τ) = mq_kv (pX F d 36 [.inr (some (4, r2)), .inr (some (5, r3)), .inl x4] (c, σ, pr, τ)) (fun w M => pL F d 96 f 114 [(0, .inr (some (6, 0))), (1, .inl x1), (2, .inr (some (4, r2))), (3, .inr (some (5, r3))), (4, .inl x4), (5, .inl x5)] (mq_psh w []) M) := id rfl
theorem T96_115 (F d f r2 r3 : Nat) (x1 x4 x5 : Int32) (c : Nat → Nat) (σ : mSg) (τ : mLg) :
    pL F d 96 (f + 3) 115 [(0, .inr (some (6, 0))), (1, .inl x1), (2, .inr (some (4, r2))), (3, .inr (some (5, r3))), (4, .inl x4), (5, .inl x5)] [] (c, σ, pr, τ) = mq_kv (pX F d 37 [.inr (some (4, r2)), .inl x4] (c, σ, pr, τ)) (fun w M => pL F d 96 f 121 [(0, .inr (some (6, 0))), (1, .inl x1), (2, .inr (some (4, r2))), (3, .inr (some (5, r3))), (4, .inl x4), (5, .inl x5)] (mq_psh w []) M) := id rfl
theorem T96_122 (F d f r2 r3 : Nat) (x1 x4 x5 : Int32) (c : Nat → Nat) (σ : mSg) (τ : mLg) :
    pL F d 96 (f + 5) 122 [(0, .inr (some (6, 0))), (1, .inl x1), (2, .inr (some (4, r2))), (3, .inr (some (5, r3))), (4, .inl x4), (5, .inl x5)] [] (c, σ, pr, τ) = mq_kv (pX F d 97 [.inr (some (6, 0)), .inr (some (4, r2)), .inl x4, .inl x5] (c, σ, pr, τ)) (fun w M => pL F d 96 f 131 [(0, .inr (some (6, 0))), (1, .inl x1), (2, .inr (some (4, r2))), (3, .inr (some (5, r3))), (4, .inl x4), (5, .inl x5)] (mq_psh w []) M) := id rfl
theorem T96_132 (F d f r2 r3 : Nat) (x1 x4 x5 : Int32) (c : Nat → Nat) (σ : mSg) (τ : mLg) :
    pL F d 96 (f + 5) 132 [(0, .inr (some (6, 0))), (1, .inl x1), (2, .inr (some (4, r2))), (3, .inr (some (5, r3))), (4, .inl x4), (5, .inl x5)] [] (c, σ, pr, τ) = mq_kv (pX F d 98 [.inr (some (6, 0)), .inr (some (4, r2)), .inl x4, .inr (some (5, r3))] (c, σ, pr, τ)) (fun w M => pL F d 96 f 140 [(0, .inr (some (6, 0))), (1, .inl x1), (2, .inr (some (4, r2))), (3, .inr (some (5, r3))), (4, .inl x4), (5, .inl x5)] (mq_psh w []) M) := id rfl
theorem T96_69 (F d f r2 r3 : Nat) (x1 x4 x5 x_0 : Int32) (c : Nat → Nat) (σ : mSg) (τ : mLg) :
    pL F d 96 (f + 1) 69 [(0, .inr (some (6, 0))), (1, .inl x1), (2, .inr (some (4, r2))), (3, .inr (some (5, r3))), (4, .inl x4), (5, .inl x5)] [.inl x_0] (c, σ, pr, τ) = some (.inl (some (.inl x_0)), (c, σ, pr, τ)) := id rfl
theorem T96_81 (F d f r2 r3 : Nat) (x1 x4 x5 x_0 : Int32) (c : Nat → Nat) (σ : mSg) (τ : mLg) :
    pL F d 96 (f + 1) 81 [(0, .inr (some (6, 0))), (1, .inl x1), (2, .inr (some (4, r2))), (3, .inr (some (5, r3))), (4, .inl x4), (5, .inl x5)] [.inl x_0] (c, σ, pr, τ) = some (.inl (some (.inl x_0)), (c, σ, pr, τ)) := id rfl
theorem T96_92 (F d f r2 r3 : Nat) (x1 x4 x5 x_0 : Int32) (c : Nat → Nat) (σ : mSg) (τ : mLg) :
    pL F d 96 (f + 1) 92 [(0, .inr (some (6, 0))), (1, .inl x1), (2, .inr (some (4, r2))), (3, .inr (some (5, r3))), (4, .inl x4), (5, .inl x5)] [.inl x_0] (c, σ, pr, τ) = some (.inl (some (.inl x_0)), (c, σ, pr, τ)) := id rfl
theorem T96_101 (F d f r2 r3 : Nat) (x1 x4 x5 x_0 : Int32) (c : Nat → Nat) (σ : mSg) (τ : mLg) :
    pL F d 96 (f + 1) 101 [(0, .inr (some (6, 0))), (1, .inl x1), (2, .inr (some (4, r2))), (3, .inr (some (5, r3))), (4, .inl x4), (5, .inl x5)] [.inl x_0] (c, σ, pr, τ) = some (.inl (some (.inl x_0)), (c, σ, pr, τ)) := id rfl
theorem T96_114 (F d f r2 r3 : Nat) (x1 x4 x5 x_0 : Int32) (c : Nat → Nat) (σ : mSg) (τ : mLg) :
    pL F d 96 (f + 1) 114 [(0, .inr (some (6, 0))), (1, .inl x1), (2, .inr (some (4, r2))), (3, .inr (some (5, r3))), (4, .inl x4), (5, .inl x5)] [.inl x_0] (c, σ, pr, τ) = some (.inl (some (.inl x_0)), (c, σ, pr, τ)) := id rfl
theorem T96_121 (F d f r2 r3 : Nat) (x1 x4 x5 x_0 : Int32) (c : Nat → Nat) (σ : mSg) (τ : mLg) :
    pL F d 96 (f + 1) 121 [(0, .inr (some (6, 0))), (1, .inl x1), (2, .inr (some (4, r2))), (3, .inr (some (5, r3))), (4, .inl x4), (5, .inl x5)] [.inl x_0] (c, σ, pr, τ) = some (.inl (some (.inl x_0)), (c, σ, pr, τ)) := id rfl
theorem T96_131 (F d f r2 r3 : Nat) (x1 x4 x5 x_0 : Int32) (c : Nat → Nat) (σ : mSg) (τ : mLg) :
    pL F d 96 (f + 1) 131 [(0, .inr (some (6, 0))), (1, .inl x1), (2, .inr (some (4, r2))), (3, .inr (some (5, r3))), (4, .inl x4), (5, .inl x5)] [.inl x_0] (c, σ, pr, τ) = some (.inl (some (.inl x_0)), (c, σ, pr, τ)) := id rfl
theorem T96_140 (F d f r2 r3 : Nat) (x1 x4 x5 x_0 : Int32) (c : Nat → Nat) (σ : mSg) (τ : mLg) :
    pL F d 96 (f + 1) 140 [(0, .inr (some (6, 0))), (1, .inl x1), (2, .inr (some (4, r2))), (3, .inr (some (5, r3))), (4, .inl x4), (5, .inl x5)] [.inl x_0] (c, σ, pr, τ) = some (.inl (some (.inl x_0)), (c, σ, pr, τ)) := id rfl
/-! PartitionKernel.send(LPartitionKernel$Partition;II)I -/
theorem T97 (F d r1 : Nat) (x2 x3 : Int32) (c : Nat → Nat) (σ : mSg) (τ : mLg) :
    pX F (d + 1) 97 [.inr (some (6, 0)), .inr (some (4, r1)), .inl x2, .inl x3] (c, σ, pr, τ) = pL F d 97 F 0 [(0, .inr (some (6, 0))), (1, .inr (some (4, r1))), (2, .inl x2), (3, .inl x3)] [] (c, σ, pr, τ) := id rfl
theorem T97_0 (F d f r1 : Nat) (x2 x3 : Int32) (c : Nat → Nat) (σ : mSg) (τ : mLg) :
    pL F d 97 (f + 3) 0 [(0, .inr (some (6, 0))), (1, .inr (some (4, r1))), (2, .inl x2), (3, .inl x3)] [] (c, σ, pr, τ) = mq_kv (pX F d 91 [.inr (some (6, 0)), .inl x2] (c, σ, pr, τ)) (fun w M => pL F d 97 f 5 [(0, .inr (some (6, 0))), (1, .inr (some (4, r1))), (2, .inl x2), (3, .inl x3)] (mq_psh w []) M) := id rfl
theorem T97_5 (F d f r1 : Nat) (x2 x3 : Int32) (c : Nat → Nat) (σ : mSg) (τ : mLg) :
    pL F d 97 (f + 5) 5 [(0, .inr (some (6, 0))), (1, .inr (some (4, r1))), (2, .inl x2), (3, .inl x3)] [.inr (.inl none)] (c, σ, pr, τ) = some (.inl (some (.inl 1)), (c, σ, pr, τ)) := id rfl
theorem T97_5a (F d f r1 r_0 : Nat) (x2 x3 : Int32) (c : Nat → Nat) (σ : mSg) (τ : mLg) :
    pL F d 97 (f + 8) 5 [(0, .inr (some (6, 0))), (1, .inr (some (4, r1))), (2, .inl x2), (3, .inl x3)] [.inr (.inl (some (0, r_0)))] (c, σ, pr, τ) = (if (σ 0 r_0 2) = (σ 4 r1 0) then pL F d 97 f 26 [(0, .inr (some (6, 0))), (1, .inr (some (4, r1))), (2, .inl x2), (3, .inl x3), (4, .inr (some (0, r_0)))] [] (c, σ, pr, τ) else pL F d 97 f 24 [(0, .inr (some (6, 0))), (1, .inr (some (4, r1))), (2, .inl x2), (3, .inl x3), (4, .inr (some (0, r_0)))] [] (c, σ, pr, τ)) := id rfl
theorem T97_26 (F d f r1 r4 : Nat) (x2 x3 : Int32) (c : Nat → Nat) (σ : mSg) (τ : mLg) :
    pL F d 97 (f + 5) 26 [(0, .inr (some (6, 0))), (1, .inr (some (4, r1))), (2, .inl x2), (3, .inl x3), (4, .inr (some (0, r4)))] [] (c, σ, pr, τ) = mq_kv (pX F d 3 [.inr (some (0, r4)), .inl x3, .inl (σ 6 0 5)] (c, σ, pr, τ)) (fun w M => pL F d 97 f 36 [(0, .inr (some (6, 0))), (1, .inr (some (4, r1))), (2, .inl x2), (3, .inl x3), (4, .inr (some (0, r4)))] (mq_psh w []) M) := id rfl
theorem T97_24 (F d f r1 r4 : Nat) (x2 x3 : Int32) (c : Nat → Nat) (σ : mSg) (τ : mLg) :
    pL F d 97 (f + 2) 24 [(0, .inr (some (6, 0))), (1, .inr (some (4, r1))), (2, .inl x2), (3, .inl x3), (4, .inr (some (0, r4)))] [] (c, σ, pr, τ) = some (.inl (some (.inl 1)), (c, σ, pr, τ)) := id rfl
theorem T97_36 (F d f r1 r4 : Nat) (x2 x3 x_0 : Int32) (c : Nat → Nat) (σ : mSg) (τ : mLg) :
    pL F d 97 (f + 1) 36 [(0, .inr (some (6, 0))), (1, .inr (some (4, r1))), (2, .inl x2), (3, .inl x3), (4, .inr (some (0, r4)))] [.inl x_0] (c, σ, pr, τ) = some (.inl (some (.inl x_0)), (c, σ, pr, τ)) := id rfl
/-! PartitionKernel.receive(LPartitionKernel$Partition;ILPartitionKernel$Proc;)I -/
theorem T98 (F d r1 r3 : Nat) (x2 : Int32) (c : Nat → Nat) (σ : mSg) (τ : mLg) :
    pX F (d + 1) 98 [.inr (some (6, 0)), .inr (some (4, r1)), .inl x2, .inr (some (5, r3))] (c, σ, pr, τ) = pL F d 98 F 0 [(0, .inr (some (6, 0))), (1, .inr (some (4, r1))), (2, .inl x2), (3, .inr (some (5, r3)))] [] (c, σ, pr, τ) := id rfl
theorem T98_0 (F d f r1 r3 : Nat) (x2 : Int32) (c : Nat → Nat) (σ : mSg) (τ : mLg) :
    pL F d 98 (f + 3) 0 [(0, .inr (some (6, 0))), (1, .inr (some (4, r1))), (2, .inl x2), (3, .inr (some (5, r3)))] [] (c, σ, pr, τ) = mq_kv (pX F d 91 [.inr (some (6, 0)), .inl x2] (c, σ, pr, τ)) (fun w M => pL F d 98 f 5 [(0, .inr (some (6, 0))), (1, .inr (some (4, r1))), (2, .inl x2), (3, .inr (some (5, r3)))] (mq_psh w []) M) := id rfl
theorem T98_5 (F d f r1 r3 : Nat) (x2 : Int32) (c : Nat → Nat) (σ : mSg) (τ : mLg) :
    pL F d 98 (f + 5) 5 [(0, .inr (some (6, 0))), (1, .inr (some (4, r1))), (2, .inl x2), (3, .inr (some (5, r3)))] [.inr (.inl none)] (c, σ, pr, τ) = some (.inl (some (.inl 1)), (c, σ, pr, τ)) := id rfl
theorem T98_5a (F d f r1 r3 r_0 : Nat) (x2 : Int32) (c : Nat → Nat) (σ : mSg) (τ : mLg) :
    pL F d 98 (f + 8) 5 [(0, .inr (some (6, 0))), (1, .inr (some (4, r1))), (2, .inl x2), (3, .inr (some (5, r3)))] [.inr (.inl (some (0, r_0)))] (c, σ, pr, τ) = (if (σ 0 r_0 3) = (σ 4 r1 0) then pL F d 98 f 26 [(0, .inr (some (6, 0))), (1, .inr (some (4, r1))), (2, .inl x2), (3, .inr (some (5, r3))), (4, .inr (some (0, r_0)))] [] (c, σ, pr, τ) else pL F d 98 f 24 [(0, .inr (some (6, 0))), (1, .inr (some (4, r1))), (2, .inl x2), (3, .inr (some (5, r3))), (4, .inr (some (0, r_0)))] [] (c, σ, pr, τ)) := id rfl
theorem T98_26 (F d f r1 r3 r4 : Nat) (x2 : Int32) (c : Nat → Nat) (σ : mSg) (τ : mLg) :
    pL F d 98 (f + 3) 26 [(0, .inr (some (6, 0))), (1, .inr (some (4, r1))), (2, .inl x2), (3, .inr (some (5, r3))), (4, .inr (some (0, r4)))] [] (c, σ, pr, τ) = (if (σ 0 r4 6) = 0 then pL F d 98 f 34 [(0, .inr (some (6, 0))), (1, .inr (some (4, r1))), (2, .inl x2), (3, .inr (some (5, r3))), (4, .inr (some (0, r4)))] [] (c, σ, pr, τ) else pL F d 98 f 36 [(0, .inr (some (6, 0))), (1, .inr (some (4, r1))), (2, .inl x2), (3, .inr (some (5, r3))), (4, .inr (some (0, r4)))] [] (c, σ, pr, τ)) := id rfl
theorem T98_24 (F d f r1 r3 r4 : Nat) (x2 : Int32) (c : Nat → Nat) (σ : mSg) (τ : mLg) :
    pL F d 98 (f + 2) 24 [(0, .inr (some (6, 0))), (1, .inr (some (4, r1))), (2, .inl x2), (3, .inr (some (5, r3))), (4, .inr (some (0, r4)))] [] (c, σ, pr, τ) = some (.inl (some (.inl 1)), (c, σ, pr, τ)) := id rfl
theorem T98_34 (F d f r1 r3 r4 : Nat) (x2 : Int32) (c : Nat → Nat) (σ : mSg) (τ : mLg) :
    pL F d 98 (f + 2) 34 [(0, .inr (some (6, 0))), (1, .inr (some (4, r1))), (2, .inl x2), (3, .inr (some (5, r3))), (4, .inr (some (0, r4)))] [] (c, σ, pr, τ) = some (.inl (some (.inl 2)), (c, σ, pr, τ)) := id rfl
theorem T98_36 (F d f r1 r3 r4 : Nat) (x2 : Int32) (c : Nat → Nat) (σ : mSg) (τ : mLg) :
    pL F d 98 (f + 5) 36 [(0, .inr (some (6, 0))), (1, .inr (some (4, r1))), (2, .inl x2), (3, .inr (some (5, r3))), (4, .inr (some (0, r4)))] [] (c, σ, pr, τ) = mq_kv (pX F d 5 [.inr (some (0, r4)), .inl 0] (c, σ, pr, τ)) (fun w M => pL F d 98 f 45 [(0, .inr (some (6, 0))), (1, .inr (some (4, r1))), (2, .inl x2), (3, .inr (some (5, r3))), (4, .inr (some (0, r4)))] (mq_psh w [.inl 11, .inr (.inl (some (5, r3)))]) M) := id rfl
theorem T98_45 (F d f r1 r3 r4 r_2 : Nat) (x2 x_0 x_1 : Int32) (c : Nat → Nat) (σ : mSg) (τ : mLg) :
    pL F d 98 (f + 1) 45 [(0, .inr (some (6, 0))), (1, .inr (some (4, r1))), (2, .inl x2), (3, .inr (some (5, r3))), (4, .inr (some (0, r4)))] [.inl x_0, .inl x_1, .inr (.inl (some (5, r_2)))] (c, σ, pr, τ) = mq_kv (pX F d 44 [.inr (some (5, r_2)), .inl x_1, .inl x_0] (c, σ, pr, τ)) (fun w M => pL F d 98 f 48 [(0, .inr (some (6, 0))), (1, .inr (some (4, r1))), (2, .inl x2), (3, .inr (some (5, r3))), (4, .inr (some (0, r4)))] (mq_psh w []) M) := id rfl
theorem T98_48 (F d f r1 r3 r4 : Nat) (x2 : Int32) (c : Nat → Nat) (σ : mSg) (τ : mLg) :
    pL F d 98 (f + 4) 48 [(0, .inr (some (6, 0))), (1, .inr (some (4, r1))), (2, .inl x2), (3, .inr (some (5, r3))), (4, .inr (some (0, r4)))] [] (c, σ, pr, τ) = mq_kv (pX F d 4 [.inr (some (0, r4)), .inl (σ 6 0 5)] (c, σ, pr, τ)) (fun w M => pL F d 98 f 57 [(0, .inr (some (6, 0))), (1, .inr (some (4, r1))), (2, .inl x2), (3, .inr (some (5, r3))), (4, .inr (some (0, r4)))] (mq_psh w []) M) := id rfl
theorem T98_57 (F d f r1 r3 r4 : Nat) (x2 x_0 : Int32) (c : Nat → Nat) (σ : mSg) (τ : mLg) :
    pL F d 98 (f + 1) 57 [(0, .inr (some (6, 0))), (1, .inr (some (4, r1))), (2, .inl x2), (3, .inr (some (5, r3))), (4, .inr (some (0, r4)))] [.inl x_0] (c, σ, pr, τ) = some (.inl (some (.inl x_0)), (c, σ, pr, τ)) := id rfl
