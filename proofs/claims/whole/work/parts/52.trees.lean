/-! Trees of the methods, by program (wip/whole/tools/sx.py). -/
/-! PartitionKernel$Machine.step(LPartitionKernel$Proc;LPartitionKernel$Memory;)I -/
theorem T50 (F d r0 r1 : Nat) (c : Nat → Nat) (σ : mSg) (τ : mLg) :
    pX F (d + 1) 50 [.inr (some (5, r0)), .inr (some (3, r1))] (c, σ, pr, τ) = pL F d 50 F 0 [(0, .inr (some (5, r0))), (1, .inr (some (3, r1)))] [] (c, σ, pr, τ) := id rfl
theorem T50_0 (F d f r0 r1 : Nat) (c : Nat → Nat) (σ : mSg) (τ : mLg) :
    pL F d 50 (f + 4) 0 [(0, .inr (some (5, r0))), (1, .inr (some (3, r1)))] [] (c, σ, pr, τ) = mq_ks (pX F d 16 [.inl (σ 5 r0 6), .inl 4] (c, σ, pr, τ)) (fun w M => pL F d 50 f 8 [(0, .inr (some (5, r0))), (1, .inr (some (3, r1)))] (mq_psh w []) M) := id rfl
theorem T50_8 (F d f r0 r1 : Nat) (x_0 : Int32) (c : Nat → Nat) (σ : mSg) (τ : mLg) :
    pL F d 50 (f + 1) 8 [(0, .inr (some (5, r0))), (1, .inr (some (3, r1)))] [.inl x_0] (c, σ, pr, τ) = (if x_0 = 0 then pL F d 50 f 11 [(0, .inr (some (5, r0))), (1, .inr (some (3, r1)))] [] (c, σ, pr, τ) else pL F d 50 f 13 [(0, .inr (some (5, r0))), (1, .inr (some (3, r1)))] [] (c, σ, pr, τ)) := id rfl
theorem T50_11 (F d f r0 r1 : Nat) (c : Nat → Nat) (σ : mSg) (τ : mLg) :
    pL F d 50 (f + 2) 11 [(0, .inr (some (5, r0))), (1, .inr (some (3, r1)))] [] (c, σ, pr, τ) = some (.inl (some (.inl 1)), (c, σ, pr, τ)) := id rfl
theorem T50_13 (F d f r0 r1 : Nat) (c : Nat → Nat) (σ : mSg) (τ : mLg) :
    pL F d 50 (f + 4) 13 [(0, .inr (some (5, r0))), (1, .inr (some (3, r1)))] [] (c, σ, pr, τ) = mq_kv (pX F d 17 [.inr (some (3, r1)), .inl (σ 5 r0 6)] (c, σ, pr, τ)) (fun w M => pL F d 50 f 21 [(0, .inr (some (5, r0))), (1, .inr (some (3, r1)))] (mq_psh w []) M) := id rfl
theorem T50_21 (F d f r0 r1 : Nat) (x_0 : Int32) (c : Nat → Nat) (σ : mSg) (τ : mLg) :
    pL F d 50 (f + 5) 21 [(0, .inr (some (5, r0))), (1, .inr (some (3, r1)))] [.inl x_0] (c, σ, pr, τ) = pL F d 50 f (mq_swt (x_0 &&& 127) 225 [(3, 186), (19, 200), (23, 132), (35, 193), (51, 206), (55, 116), (99, 180), (103, 174), (111, 153), (115, 212)]) [(0, .inr (some (5, r0))), (1, .inr (some (3, r1))), (2, .inl x_0)] [] (c, σ, pr, τ) := id rfl
theorem T50_116 (F d f r0 r1 : Nat) (x2 : Int32) (c : Nat → Nat) (σ : mSg) (τ : mLg) :
    pL F d 50 (f + 4) 116 [(0, .inr (some (5, r0))), (1, .inr (some (3, r1))), (2, .inl x2)] [] (c, σ, pr, τ) = mq_ks (pX F d 66 [.inl x2] (c, σ, pr, τ)) (fun w M => pL F d 50 f 122 [(0, .inr (some (5, r0))), (1, .inr (some (3, r1))), (2, .inl x2)] (mq_psh w [.inl x2, .inr (.inl (some (5, r0)))]) M) := id rfl
theorem T50_132 (F d f r0 r1 : Nat) (x2 : Int32) (c : Nat → Nat) (σ : mSg) (τ : mLg) :
    pL F d 50 (f + 6) 132 [(0, .inr (some (5, r0))), (1, .inr (some (3, r1))), (2, .inl x2)] [] (c, σ, pr, τ) = mq_ks (pX F d 66 [.inl x2] (c, σ, pr, τ)) (fun w M => pL F d 50 f 142 [(0, .inr (some (5, r0))), (1, .inr (some (3, r1))), (2, .inl x2)] (mq_psh w [.inl (σ 5 r0 6), .inl x2, .inr (.inl (some (5, r0)))]) M) := id rfl
theorem T50_153 (F d f r0 r1 : Nat) (x2 : Int32) (c : Nat → Nat) (σ : mSg) (τ : mLg) :
    pL F d 50 (f + 10) 153 [(0, .inr (some (5, r0))), (1, .inr (some (3, r1))), (2, .inl x2)] [] (c, σ, pr, τ) = mq_ks (pX F d 68 [.inl x2] (c, σ, pr, τ)) (fun w M => pL F d 50 f 169 [(0, .inr (some (5, r0))), (1, .inr (some (3, r1))), (2, .inl x2)] (mq_psh w [.inl (σ 5 r0 6), .inl ((σ 5 r0 6) + 4), .inl x2, .inr (.inl (some (5, r0)))]) M) := id rfl
theorem T50_174 (F d f r0 r1 : Nat) (x2 : Int32) (c : Nat → Nat) (σ : mSg) (τ : mLg) :
    pL F d 50 (f + 3) 174 [(0, .inr (some (5, r0))), (1, .inr (some (3, r1))), (2, .inl x2)] [] (c, σ, pr, τ) = mq_ks (pX F d 52 [.inr (some (5, r0)), .inl x2] (c, σ, pr, τ)) (fun w M => pL F d 50 f 179 [(0, .inr (some (5, r0))), (1, .inr (some (3, r1))), (2, .inl x2)] (mq_psh w []) M) := id rfl
theorem T50_180 (F d f r0 r1 : Nat) (x2 : Int32) (c : Nat → Nat) (σ : mSg) (τ : mLg) :
    pL F d 50 (f + 3) 180 [(0, .inr (some (5, r0))), (1, .inr (some (3, r1))), (2, .inl x2)] [] (c, σ, pr, τ) = mq_ks (pX F d 53 [.inr (some (5, r0)), .inl x2] (c, σ, pr, τ)) (fun w M => pL F d 50 f 185 [(0, .inr (some (5, r0))), (1, .inr (some (3, r1))), (2, .inl x2)] (mq_psh w []) M) := id rfl
theorem T50_186 (F d f r0 r1 : Nat) (x2 : Int32) (c : Nat → Nat) (σ : mSg) (τ : mLg) :
    pL F d 50 (f + 4) 186 [(0, .inr (some (5, r0))), (1, .inr (some (3, r1))), (2, .inl x2)] [] (c, σ, pr, τ) = mq_ks (pX F d 54 [.inr (some (5, r0)), .inl x2, .inr (some (3, r1))] (c, σ, pr, τ)) (fun w M => pL F d 50 f 192 [(0, .inr (some (5, r0))), (1, .inr (some (3, r1))), (2, .inl x2)] (mq_psh w []) M) := id rfl
theorem T50_193 (F d f r0 r1 : Nat) (x2 : Int32) (c : Nat → Nat) (σ : mSg) (τ : mLg) :
    pL F d 50 (f + 4) 193 [(0, .inr (some (5, r0))), (1, .inr (some (3, r1))), (2, .inl x2)] [] (c, σ, pr, τ) = mq_ks (pX F d 56 [.inr (some (5, r0)), .inl x2, .inr (some (3, r1))] (c, σ, pr, τ)) (fun w M => pL F d 50 f 199 [(0, .inr (some (5, r0))), (1, .inr (some (3, r1))), (2, .inl x2)] (mq_psh w []) M) := id rfl
theorem T50_200 (F d f r0 r1 : Nat) (x2 : Int32) (c : Nat → Nat) (σ : mSg) (τ : mLg) :
    pL F d 50 (f + 3) 200 [(0, .inr (some (5, r0))), (1, .inr (some (3, r1))), (2, .inl x2)] [] (c, σ, pr, τ) = mq_ks (pX F d 57 [.inr (some (5, r0)), .inl x2] (c, σ, pr, τ)) (fun w M => pL F d 50 f 205 [(0, .inr (some (5, r0))), (1, .inr (some (3, r1))), (2, .inl x2)] (mq_psh w []) M) := id rfl
theorem T50_206 (F d f r0 r1 : Nat) (x2 : Int32) (c : Nat → Nat) (σ : mSg) (τ : mLg) :
    pL F d 50 (f + 3) 206 [(0, .inr (some (5, r0))), (1, .inr (some (3, r1))), (2, .inl x2)] [] (c, σ, pr, τ) = mq_ks (pX F d 58 [.inr (some (5, r0)), .inl x2] (c, σ, pr, τ)) (fun w M => pL F d 50 f 211 [(0, .inr (some (5, r0))), (1, .inr (some (3, r1))), (2, .inl x2)] (mq_psh w []) M) := id rfl
theorem T50_212 (F d f r0 r1 : Nat) (x2 : Int32) (c : Nat → Nat) (σ : mSg) (τ : mLg) :
    pL F d 50 (f + 3) 212 [(0, .inr (some (5, r0))), (1, .inr (some (3, r1))), (2, .inl x2)] [] (c, σ, pr, τ) = (if x2 = 115 then pL F d 50 f 218 [(0, .inr (some (5, r0))), (1, .inr (some (3, r1))), (2, .inl x2)] [] (c, σ, pr, τ) else pL F d 50 f 223 [(0, .inr (some (5, r0))), (1, .inr (some (3, r1))), (2, .inl x2)] [] (c, σ, pr, τ)) := id rfl
theorem T50_225 (F d f r0 r1 : Nat) (x2 : Int32) (c : Nat → Nat) (σ : mSg) (τ : mLg) :
    pL F d 50 (f + 2) 225 [(0, .inr (some (5, r0))), (1, .inr (some (3, r1))), (2, .inl x2)] [] (c, σ, pr, τ) = some (.inl (some (.inl 0)), (c, σ, pr, τ)) := id rfl
theorem T50_122 (F d f r0 r1 r_2 : Nat) (x2 x_0 x_1 : Int32) (c : Nat → Nat) (σ : mSg) (τ : mLg) :
    pL F d 50 (f + 5) 122 [(0, .inr (some (5, r0))), (1, .inr (some (3, r1))), (2, .inl x2)] [.inl x_0, .inl x_1, .inr (.inl (some (5, r_2)))] (c, σ, pr, τ) = mq_ks (pX F d 51 [.inr (some (5, r_2)), .inl x_1, .inl x_0, .inl ((σ 5 r0 6) + 4)] (c, σ, pr, τ)) (fun w M => pL F d 50 f 131 [(0, .inr (some (5, r0))), (1, .inr (some (3, r1))), (2, .inl x2)] (mq_psh w []) M) := id rfl
theorem T50_142 (F d f r0 r1 r_3 : Nat) (x2 x_0 x_1 x_2 : Int32) (c : Nat → Nat) (σ : mSg) (τ : mLg) :
    pL F d 50 (f + 6) 142 [(0, .inr (some (5, r0))), (1, .inr (some (3, r1))), (2, .inl x2)] [.inl x_0, .inl x_1, .inl x_2, .inr (.inl (some (5, r_3)))] (c, σ, pr, τ) = mq_ks (pX F d 51 [.inr (some (5, r_3)), .inl x_2, .inl (x_1 + x_0), .inl ((σ 5 r0 6) + 4)] (c, σ, pr, τ)) (fun w M => pL F d 50 f 152 [(0, .inr (some (5, r0))), (1, .inr (some (3, r1))), (2, .inl x2)] (mq_psh w []) M) := id rfl
theorem T50_169 (F d f r0 r1 r_4 : Nat) (x2 x_0 x_1 x_2 x_3 : Int32) (c : Nat → Nat) (σ : mSg) (τ : mLg) :
    pL F d 50 (f + 2) 169 [(0, .inr (some (5, r0))), (1, .inr (some (3, r1))), (2, .inl x2)] [.inl x_0, .inl x_1, .inl x_2, .inl x_3, .inr (.inl (some (5, r_4)))] (c, σ, pr, τ) = mq_ks (pX F d 51 [.inr (some (5, r_4)), .inl x_3, .inl x_2, .inl (x_1 + x_0)] (c, σ, pr, τ)) (fun w M => pL F d 50 f 173 [(0, .inr (some (5, r0))), (1, .inr (some (3, r1))), (2, .inl x2)] (mq_psh w []) M) := id rfl
theorem T50_179 (F d f r0 r1 : Nat) (x2 x_0 : Int32) (c : Nat → Nat) (σ : mSg) (τ : mLg) :
    pL F d 50 (f + 1) 179 [(0, .inr (some (5, r0))), (1, .inr (some (3, r1))), (2, .inl x2)] [.inl x_0] (c, σ, pr, τ) = some (.inl (some (.inl x_0)), (c, σ, pr, τ)) := id rfl
theorem T50_185 (F d f r0 r1 : Nat) (x2 x_0 : Int32) (c : Nat → Nat) (σ : mSg) (τ : mLg) :
    pL F d 50 (f + 1) 185 [(0, .inr (some (5, r0))), (1, .inr (some (3, r1))), (2, .inl x2)] [.inl x_0] (c, σ, pr, τ) = some (.inl (some (.inl x_0)), (c, σ, pr, τ)) := id rfl
theorem T50_192 (F d f r0 r1 : Nat) (x2 x_0 : Int32) (c : Nat → Nat) (σ : mSg) (τ : mLg) :
    pL F d 50 (f + 1) 192 [(0, .inr (some (5, r0))), (1, .inr (some (3, r1))), (2, .inl x2)] [.inl x_0] (c, σ, pr, τ) = some (.inl (some (.inl x_0)), (c, σ, pr, τ)) := id rfl
theorem T50_199 (F d f r0 r1 : Nat) (x2 x_0 : Int32) (c : Nat → Nat) (σ : mSg) (τ : mLg) :
    pL F d 50 (f + 1) 199 [(0, .inr (some (5, r0))), (1, .inr (some (3, r1))), (2, .inl x2)] [.inl x_0] (c, σ, pr, τ) = some (.inl (some (.inl x_0)), (c, σ, pr, τ)) := id rfl
theorem T50_205 (F d f r0 r1 : Nat) (x2 x_0 : Int32) (c : Nat → Nat) (σ : mSg) (τ : mLg) :
    pL F d 50 (f + 1) 205 [(0, .inr (some (5, r0))), (1, .inr (some (3, r1))), (2, .inl x2)] [.inl x_0] (c, σ, pr, τ) = some (.inl (some (.inl x_0)), (c, σ, pr, τ)) := id rfl
theorem T50_211 (F d f r0 r1 : Nat) (x2 x_0 : Int32) (c : Nat → Nat) (σ : mSg) (τ : mLg) :
    pL F d 50 (f + 1) 211 [(0, .inr (some (5, r0))), (1, .inr (some (3, r1))), (2, .inl x2)] [.inl x_0] (c, σ, pr, τ) = some (.inl (some (.inl x_0)), (c, σ, pr, τ)) := id rfl
theorem T50_218 (F d f r0 r1 : Nat) (x2 : Int32) (c : Nat → Nat) (σ : mSg) (τ : mLg) :
    pL F d 50 (f + 3) 218 [(0, .inr (some (5, r0))), (1, .inr (some (3, r1))), (2, .inl x2)] [] (c, σ, pr, τ) = some (.inl (some (.inl (-2))), (c, σ, pr, τ)) := id rfl
theorem T50_223 (F d f r0 r1 : Nat) (x2 : Int32) (c : Nat → Nat) (σ : mSg) (τ : mLg) :
    pL F d 50 (f + 2) 223 [(0, .inr (some (5, r0))), (1, .inr (some (3, r1))), (2, .inl x2)] [] (c, σ, pr, τ) = some (.inl (some (.inl 0)), (c, σ, pr, τ)) := id rfl
theorem T50_131 (F d f r0 r1 : Nat) (x2 x_0 : Int32) (c : Nat → Nat) (σ : mSg) (τ : mLg) :
    pL F d 50 (f + 1) 131 [(0, .inr (some (5, r0))), (1, .inr (some (3, r1))), (2, .inl x2)] [.inl x_0] (c, σ, pr, τ) = some (.inl (some (.inl x_0)), (c, σ, pr, τ)) := id rfl
theorem T50_152 (F d f r0 r1 : Nat) (x2 x_0 : Int32) (c : Nat → Nat) (σ : mSg) (τ : mLg) :
    pL F d 50 (f + 1) 152 [(0, .inr (some (5, r0))), (1, .inr (some (3, r1))), (2, .inl x2)] [.inl x_0] (c, σ, pr, τ) = some (.inl (some (.inl x_0)), (c, σ, pr, τ)) := id rfl
theorem T50_173 (F d f r0 r1 : Nat) (x2 x_0 : Int32) (c : Nat → Nat) (σ : mSg) (τ : mLg) :
    pL F d 50 (f + 1) 173 [(0, .inr (some (5, r0))), (1, .inr (some (3, r1))), (2, .inl x2)] [.inl x_0] (c, σ, pr, τ) = some (.inl (some (.inl x_0)), (c, σ, pr, τ)) := id rfl
/-! PartitionKernel$Machine.finish(LPartitionKernel$Proc;III)I -/
theorem T51 (F d r0 : Nat) (x1 x2 x3 : Int32) (c : Nat → Nat) (σ : mSg) (τ : mLg) :
    pX F (d + 1) 51 [.inr (some (5, r0)), .inl x1, .inl x2, .inl x3] (c, σ, pr, τ) = pL F d 51 F 0 [(0, .inr (some (5, r0))), (1, .inl x1), (2, .inl x2), (3, .inl x3)] [] (c, σ, pr, τ) := id rfl
theorem T51_0 (F d f r0 : Nat) (x1 x2 x3 : Int32) (c : Nat → Nat) (σ : mSg) (τ : mLg) :
    pL F d 51 (f + 11) 0 [(0, .inr (some (5, r0))), (1, .inl x1), (2, .inl x2), (3, .inl x3)] [] (c, σ, pr, τ) = mq_kv (pX F d 44 [.inr (some (5, r0)), .inl ((x1 >>> (7 &&& 31)) &&& 31), .inl x2] (c, (mq_up σ 5 r0 6 x3), pr, τ)) (fun w M => pL F d 51 f 17 [(0, .inr (some (5, r0))), (1, .inl x1), (2, .inl x2), (3, .inl x3)] (mq_psh w []) M) := id rfl
theorem T51_17 (F d f r0 : Nat) (x1 x2 x3 : Int32) (c : Nat → Nat) (σ : mSg) (τ : mLg) :
    pL F d 51 (f + 2) 17 [(0, .inr (some (5, r0))), (1, .inl x1), (2, .inl x2), (3, .inl x3)] [] (c, σ, pr, τ) = some (.inl (some (.inl (-1))), (c, σ, pr, τ)) := id rfl
/-! PartitionKernel$Machine.jumpToRegister(LPartitionKernel$Proc;I)I -/
theorem T52 (F d r0 : Nat) (x1 : Int32) (c : Nat → Nat) (σ : mSg) (τ : mLg) :
    pX F (d + 1) 52 [.inr (some (5, r0)), .inl x1] (c, σ, pr, τ) = pL F d 52 F 0 [(0, .inr (some (5, r0))), (1, .inl x1)] [] (c, σ, pr, τ) := id rfl
theorem T52_0 (F d f r0 : Nat) (x1 : Int32) (c : Nat → Nat) (σ : mSg) (τ : mLg) :
    pL F d 52 (f + 2) 0 [(0, .inr (some (5, r0))), (1, .inl x1)] [] (c, σ, pr, τ) = mq_ks (pX F d 61 [.inl x1] (c, σ, pr, τ)) (fun w M => pL F d 52 f 4 [(0, .inr (some (5, r0))), (1, .inl x1)] (mq_psh w []) M) := id rfl
theorem T52_4 (F d f r0 : Nat) (x1 x_0 : Int32) (c : Nat → Nat) (σ : mSg) (τ : mLg) :
    pL F d 52 (f + 1) 4 [(0, .inr (some (5, r0))), (1, .inl x1)] [.inl x_0] (c, σ, pr, τ) = (if x_0 = 0 then pL F d 52 f 9 [(0, .inr (some (5, r0))), (1, .inl x1)] [] (c, σ, pr, τ) else pL F d 52 f 7 [(0, .inr (some (5, r0))), (1, .inl x1)] [] (c, σ, pr, τ)) := id rfl
theorem T52_9 (F d f r0 : Nat) (x1 : Int32) (c : Nat → Nat) (σ : mSg) (τ : mLg) :
    pL F d 52 (f + 9) 9 [(0, .inr (some (5, r0))), (1, .inl x1)] [] (c, σ, pr, τ) = mq_ks (pX F d 63 [.inr (some (5, r0)), .inl x1] (c, σ, pr, τ)) (fun w M => pL F d 52 f 22 [(0, .inr (some (5, r0))), (1, .inl x1)] (mq_psh w [.inl ((σ 5 r0 6) + 4), .inl x1, .inr (.inl (some (5, r0)))]) M) := id rfl
theorem T52_7 (F d f r0 : Nat) (x1 : Int32) (c : Nat → Nat) (σ : mSg) (τ : mLg) :
    pL F d 52 (f + 2) 7 [(0, .inr (some (5, r0))), (1, .inl x1)] [] (c, σ, pr, τ) = some (.inl (some (.inl 0)), (c, σ, pr, τ)) := id rfl
theorem T52_22 (F d f r0 r_3 : Nat) (x1 x_0 x_1 x_2 : Int32) (c : Nat → Nat) (σ : mSg) (τ : mLg) :
    pL F d 52 (f + 2) 22 [(0, .inr (some (5, r0))), (1, .inl x1)] [.inl x_0, .inl x_1, .inl x_2, .inr (.inl (some (5, r_3)))] (c, σ, pr, τ) = mq_ks (pX F d 65 [.inl x1] (c, σ, pr, τ)) (fun w M => pL F d 52 f 26 [(0, .inr (some (5, r0))), (1, .inl x1)] (mq_psh w [.inl x_0, .inl x_1, .inl x_2, .inr (.inl (some (5, r_3)))]) M) := id rfl
theorem T52_26 (F d f r0 r_4 : Nat) (x1 x_0 x_1 x_2 x_3 : Int32) (c : Nat → Nat) (σ : mSg) (τ : mLg) :
    pL F d 52 (f + 4) 26 [(0, .inr (some (5, r0))), (1, .inl x1)] [.inl x_0, .inl x_1, .inl x_2, .inl x_3, .inr (.inl (some (5, r_4)))] (c, σ, pr, τ) = mq_ks (pX F d 51 [.inr (some (5, r_4)), .inl x_3, .inl x_2, .inl ((x_1 + x_0) &&& (-2))] (c, σ, pr, τ)) (fun w M => pL F d 52 f 33 [(0, .inr (some (5, r0))), (1, .inl x1)] (mq_psh w []) M) := id rfl
theorem T52_33 (F d f r0 : Nat) (x1 x_0 : Int32) (c : Nat → Nat) (σ : mSg) (τ : mLg) :
    pL F d 52 (f + 1) 33 [(0, .inr (some (5, r0))), (1, .inl x1)] [.inl x_0] (c, σ, pr, τ) = some (.inl (some (.inl x_0)), (c, σ, pr, τ)) := id rfl
/-! PartitionKernel$Machine.branch(LPartitionKernel$Proc;I)I -/
theorem T53 (F d r0 : Nat) (x1 : Int32) (c : Nat → Nat) (σ : mSg) (τ : mLg) :
    pX F (d + 1) 53 [.inr (some (5, r0)), .inl x1] (c, σ, pr, τ) = pL F d 53 F 0 [(0, .inr (some (5, r0))), (1, .inl x1)] [] (c, σ, pr, τ) := id rfl
theorem T53_0 (F d f r0 : Nat) (x1 : Int32) (c : Nat → Nat) (σ : mSg) (τ : mLg) :
    pL F d 53 (f + 3) 0 [(0, .inr (some (5, r0))), (1, .inl x1)] [] (c, σ, pr, τ) = mq_ks (pX F d 63 [.inr (some (5, r0)), .inl x1] (c, σ, pr, τ)) (fun w M => pL F d 53 f 5 [(0, .inr (some (5, r0))), (1, .inl x1)] (mq_psh w []) M) := id rfl
theorem T53_5 (F d f r0 : Nat) (x1 x_0 : Int32) (c : Nat → Nat) (σ : mSg) (τ : mLg) :
    pL F d 53 (f + 4) 5 [(0, .inr (some (5, r0))), (1, .inl x1)] [.inl x_0] (c, σ, pr, τ) = mq_ks (pX F d 64 [.inr (some (5, r0)), .inl x1] (c, σ, pr, τ)) (fun w M => pL F d 53 f 11 [(0, .inr (some (5, r0))), (1, .inl x1), (2, .inl x_0)] (mq_psh w []) M) := id rfl
theorem T53_11 (F d f r0 : Nat) (x1 x2 x_0 : Int32) (c : Nat → Nat) (σ : mSg) (τ : mLg) :
    pL F d 53 (f + 3) 11 [(0, .inr (some (5, r0))), (1, .inl x1), (2, .inl x2)] [.inl x_0] (c, σ, pr, τ) = mq_ks (pX F d 61 [.inl x1] (c, σ, pr, τ)) (fun w M => pL F d 53 f 16 [(0, .inr (some (5, r0))), (1, .inl x1), (2, .inl x2), (3, .inl x_0)] (mq_psh w []) M) := id rfl
theorem T53_16 (F d f r0 : Nat) (x1 x2 x3 x_0 : Int32) (c : Nat → Nat) (σ : mSg) (τ : mLg) :
    pL F d 53 (f + 1) 16 [(0, .inr (some (5, r0))), (1, .inl x1), (2, .inl x2), (3, .inl x3)] [.inl x_0] (c, σ, pr, τ) = pL F d 53 f (mq_swt x_0 152 [(0, 64), (1, 79), (2, 152), (3, 152), (4, 94), (5, 109), (6, 124), (7, 134)]) [(0, .inr (some (5, r0))), (1, .inl x1), (2, .inl x2), (3, .inl x3)] [] (c, σ, pr, τ) := id rfl
theorem T53_64 (F d f r0 : Nat) (x1 x2 x3 : Int32) (c : Nat → Nat) (σ : mSg) (τ : mLg) :
    pL F d 53 (f + 3) 64 [(0, .inr (some (5, r0))), (1, .inl x1), (2, .inl x2), (3, .inl x3)] [] (c, σ, pr, τ) = (if x2 = x3 then pL F d 53 f 69 [(0, .inr (some (5, r0))), (1, .inl x1), (2, .inl x2), (3, .inl x3)] [] (c, σ, pr, τ) else pL F d 53 f 73 [(0, .inr (some (5, r0))), (1, .inl x1), (2, .inl x2), (3, .inl x3)] [] (c, σ, pr, τ)) := id rfl
theorem T53_79 (F d f r0 : Nat) (x1 x2 x3 : Int32) (c : Nat → Nat) (σ : mSg) (τ : mLg) :
    pL F d 53 (f + 3) 79 [(0, .inr (some (5, r0))), (1, .inl x1), (2, .inl x2), (3, .inl x3)] [] (c, σ, pr, τ) = (if x2 = x3 then pL F d 53 f 88 [(0, .inr (some (5, r0))), (1, .inl x1), (2, .inl x2), (3, .inl x3)] [] (c, σ, pr, τ) else pL F d 53 f 84 [(0, .inr (some (5, r0))), (1, .inl x1), (2, .inl x2), (3, .inl x3)] [] (c, σ, pr, τ)) := id rfl
theorem T53_94 (F d f r0 : Nat) (x1 x2 x3 : Int32) (c : Nat → Nat) (σ : mSg) (τ : mLg) :
    pL F d 53 (f + 3) 94 [(0, .inr (some (5, r0))), (1, .inl x1), (2, .inl x2), (3, .inl x3)] [] (c, σ, pr, τ) = (if x2 < x3 then pL F d 53 f 99 [(0, .inr (some (5, r0))), (1, .inl x1), (2, .inl x2), (3, .inl x3)] [] (c, σ, pr, τ) else pL F d 53 f 103 [(0, .inr (some (5, r0))), (1, .inl x1), (2, .inl x2), (3, .inl x3)] [] (c, σ, pr, τ)) := id rfl
theorem T53_109 (F d f r0 : Nat) (x1 x2 x3 : Int32) (c : Nat → Nat) (σ : mSg) (τ : mLg) :
    pL F d 53 (f + 3) 109 [(0, .inr (some (5, r0))), (1, .inl x1), (2, .inl x2), (3, .inl x3)] [] (c, σ, pr, τ) = (if x2 < x3 then pL F d 53 f 118 [(0, .inr (some (5, r0))), (1, .inl x1), (2, .inl x2), (3, .inl x3)] [] (c, σ, pr, τ) else pL F d 53 f 114 [(0, .inr (some (5, r0))), (1, .inl x1), (2, .inl x2), (3, .inl x3)] [] (c, σ, pr, τ)) := id rfl
theorem T53_124 (F d f r0 : Nat) (x1 x2 x3 : Int32) (c : Nat → Nat) (σ : mSg) (τ : mLg) :
    pL F d 53 (f + 3) 124 [(0, .inr (some (5, r0))), (1, .inl x1), (2, .inl x2), (3, .inl x3)] [] (c, σ, pr, τ) = mq_ks (pX F d 60 [.inl x2, .inl x3] (c, σ, pr, τ)) (fun w M => pL F d 53 f 129 [(0, .inr (some (5, r0))), (1, .inl x1), (2, .inl x2), (3, .inl x3)] (mq_psh w []) M) := id rfl
theorem T53_134 (F d f r0 : Nat) (x1 x2 x3 : Int32) (c : Nat → Nat) (σ : mSg) (τ : mLg) :
    pL F d 53 (f + 3) 134 [(0, .inr (some (5, r0))), (1, .inl x1), (2, .inl x2), (3, .inl x3)] [] (c, σ, pr, τ) = mq_ks (pX F d 60 [.inl x2, .inl x3] (c, σ, pr, τ)) (fun w M => pL F d 53 f 139 [(0, .inr (some (5, r0))), (1, .inl x1), (2, .inl x2), (3, .inl x3)] (mq_psh w []) M) := id rfl
theorem T53_152 (F d f r0 : Nat) (x1 x2 x3 : Int32) (c : Nat → Nat) (σ : mSg) (τ : mLg) :
    pL F d 53 (f + 2) 152 [(0, .inr (some (5, r0))), (1, .inl x1), (2, .inl x2), (3, .inl x3)] [] (c, σ, pr, τ) = some (.inl (some (.inl 0)), (c, σ, pr, τ)) := id rfl
theorem T53_69 (F d f r0 : Nat) (x1 x2 x3 : Int32) (c : Nat → Nat) (σ : mSg) (τ : mLg) :
    pL F d 53 (f + 11) 69 [(0, .inr (some (5, r0))), (1, .inl x1), (2, .inl x2), (3, .inl x3)] [] (c, σ, pr, τ) = mq_ks (pX F d 69 [.inl x1] (c, σ, pr, τ)) (fun w M => pL F d 53 f 168 [(0, .inr (some (5, r0))), (1, .inl x1), (2, .inl x2), (3, .inl x3), (4, .inl 1)] (mq_psh w [.inl (σ 5 r0 6), .inr (.inl (some (5, r0)))]) M) := id rfl
theorem T53_73 (F d f r0 : Nat) (x1 x2 x3 : Int32) (c : Nat → Nat) (σ : mSg) (τ : mLg) :
    pL F d 53 (f + 13) 73 [(0, .inr (some (5, r0))), (1, .inl x1), (2, .inl x2), (3, .inl x3)] [] (c, σ, pr, τ) = some (.inl (some (.inl (-1))), (c, (mq_up σ 5 r0 6 ((σ 5 r0 6) + 4)), pr, τ)) := id rfl
theorem T53_88 (F d f r0 : Nat) (x1 x2 x3 : Int32) (c : Nat → Nat) (σ : mSg) (τ : mLg) :
    pL F d 53 (f + 13) 88 [(0, .inr (some (5, r0))), (1, .inl x1), (2, .inl x2), (3, .inl x3)] [] (c, σ, pr, τ) = some (.inl (some (.inl (-1))), (c, (mq_up σ 5 r0 6 ((σ 5 r0 6) + 4)), pr, τ)) := id rfl
theorem T53_84 (F d f r0 : Nat) (x1 x2 x3 : Int32) (c : Nat → Nat) (σ : mSg) (τ : mLg) :
    pL F d 53 (f + 11) 84 [(0, .inr (some (5, r0))), (1, .inl x1), (2, .inl x2), (3, .inl x3)] [] (c, σ, pr, τ) = mq_ks (pX F d 69 [.inl x1] (c, σ, pr, τ)) (fun w M => pL F d 53 f 168 [(0, .inr (some (5, r0))), (1, .inl x1), (2, .inl x2), (3, .inl x3), (4, .inl 1)] (mq_psh w [.inl (σ 5 r0 6), .inr (.inl (some (5, r0)))]) M) := id rfl
theorem T53_99 (F d f r0 : Nat) (x1 x2 x3 : Int32) (c : Nat → Nat) (σ : mSg) (τ : mLg) :
    pL F d 53 (f + 11) 99 [(0, .inr (some (5, r0))), (1, .inl x1), (2, .inl x2), (3, .inl x3)] [] (c, σ, pr, τ) = mq_ks (pX F d 69 [.inl x1] (c, σ, pr, τ)) (fun w M => pL F d 53 f 168 [(0, .inr (some (5, r0))), (1, .inl x1), (2, .inl x2), (3, .inl x3), (4, .inl 1)] (mq_psh w [.inl (σ 5 r0 6), .inr (.inl (some (5, r0)))]) M) := id rfl
theorem T53_103 (F d f r0 : Nat) (x1 x2 x3 : Int32) (c : Nat → Nat) (σ : mSg) (τ : mLg) :
    pL F d 53 (f + 13) 103 [(0, .inr (some (5, r0))), (1, .inl x1), (2, .inl x2), (3, .inl x3)] [] (c, σ, pr, τ) = some (.inl (some (.inl (-1))), (c, (mq_up σ 5 r0 6 ((σ 5 r0 6) + 4)), pr, τ)) := id rfl
theorem T53_118 (F d f r0 : Nat) (x1 x2 x3 : Int32) (c : Nat → Nat) (σ : mSg) (τ : mLg) :
    pL F d 53 (f + 13) 118 [(0, .inr (some (5, r0))), (1, .inl x1), (2, .inl x2), (3, .inl x3)] [] (c, σ, pr, τ) = some (.inl (some (.inl (-1))), (c, (mq_up σ 5 r0 6 ((σ 5 r0 6) + 4)), pr, τ)) := id rfl
theorem T53_114 (F d f r0 : Nat) (x1 x2 x3 : Int32) (c : Nat → Nat) (σ : mSg) (τ : mLg) :
    pL F d 53 (f + 11) 114 [(0, .inr (some (5, r0))), (1, .inl x1), (2, .inl x2), (3, .inl x3)] [] (c, σ, pr, τ) = mq_ks (pX F d 69 [.inl x1] (c, σ, pr, τ)) (fun w M => pL F d 53 f 168 [(0, .inr (some (5, r0))), (1, .inl x1), (2, .inl x2), (3, .inl x3), (4, .inl 1)] (mq_psh w [.inl (σ 5 r0 6), .inr (.inl (some (5, r0)))]) M) := id rfl
theorem T53_129 (F d f r0 : Nat) (x1 x2 x3 x_0 : Int32) (c : Nat → Nat) (σ : mSg) (τ : mLg) :
    pL F d 53 (f + 7) 129 [(0, .inr (some (5, r0))), (1, .inl x1), (2, .inl x2), (3, .inl x3)] [.inl x_0] (c, σ, pr, τ) = (if x_0 = 0 then pL F d 53 f 171 [(0, .inr (some (5, r0))), (1, .inl x1), (2, .inl x2), (3, .inl x3), (4, .inl x_0)] [.inl (σ 5 r0 6), .inr (.inl (some (5, r0)))] (c, σ, pr, τ) else pL F d 53 f 164 [(0, .inr (some (5, r0))), (1, .inl x1), (2, .inl x2), (3, .inl x3), (4, .inl x_0)] [.inl (σ 5 r0 6), .inr (.inl (some (5, r0)))] (c, σ, pr, τ)) := id rfl
theorem T53_139 (F d f r0 : Nat) (x1 x2 x3 x_0 : Int32) (c : Nat → Nat) (σ : mSg) (τ : mLg) :
    pL F d 53 (f + 1) 139 [(0, .inr (some (5, r0))), (1, .inl x1), (2, .inl x2), (3, .inl x3)] [.inl x_0] (c, σ, pr, τ) = (if x_0 = 0 then pL F d 53 f 142 [(0, .inr (some (5, r0))), (1, .inl x1), (2, .inl x2), (3, .inl x3)] [] (c, σ, pr, τ) else pL F d 53 f 146 [(0, .inr (some (5, r0))), (1, .inl x1), (2, .inl x2), (3, .inl x3)] [] (c, σ, pr, τ)) := id rfl
theorem T53_168 (F d f r0 r_2 : Nat) (x1 x2 x3 x4 x_0 x_1 : Int32) (c : Nat → Nat) (σ : mSg) (τ : mLg) :
    pL F d 53 (f + 5) 168 [(0, .inr (some (5, r0))), (1, .inl x1), (2, .inl x2), (3, .inl x3), (4, .inl x4)] [.inl x_0, .inl x_1, .inr (.inl (some (5, r_2)))] (c, σ, pr, τ) = some (.inl (some (.inl (-1))), (c, (mq_up σ 5 r_2 6 (x_1 + x_0)), pr, τ)) := id rfl
theorem T53_171 (F d f r0 r_1 : Nat) (x1 x2 x3 x4 x_0 : Int32) (c : Nat → Nat) (σ : mSg) (τ : mLg) :
    pL F d 53 (f + 5) 171 [(0, .inr (some (5, r0))), (1, .inl x1), (2, .inl x2), (3, .inl x3), (4, .inl x4)] [.inl x_0, .inr (.inl (some (5, r_1)))] (c, σ, pr, τ) = some (.inl (some (.inl (-1))), (c, (mq_up σ 5 r_1 6 (x_0 + 4)), pr, τ)) := id rfl
theorem T53_164 (F d f r0 r_1 : Nat) (x1 x2 x3 x4 x_0 : Int32) (c : Nat → Nat) (σ : mSg) (τ : mLg) :
    pL F d 53 (f + 2) 164 [(0, .inr (some (5, r0))), (1, .inl x1), (2, .inl x2), (3, .inl x3), (4, .inl x4)] [.inl x_0, .inr (.inl (some (5, r_1)))] (c, σ, pr, τ) = mq_ks (pX F d 69 [.inl x1] (c, σ, pr, τ)) (fun w M => pL F d 53 f 168 [(0, .inr (some (5, r0))), (1, .inl x1), (2, .inl x2), (3, .inl x3), (4, .inl x4)] (mq_psh w [.inl x_0, .inr (.inl (some (5, r_1)))]) M) := id rfl
theorem T53_142 (F d f r0 : Nat) (x1 x2 x3 : Int32) (c : Nat → Nat) (σ : mSg) (τ : mLg) :
    pL F d 53 (f + 11) 142 [(0, .inr (some (5, r0))), (1, .inl x1), (2, .inl x2), (3, .inl x3)] [] (c, σ, pr, τ) = mq_ks (pX F d 69 [.inl x1] (c, σ, pr, τ)) (fun w M => pL F d 53 f 168 [(0, .inr (some (5, r0))), (1, .inl x1), (2, .inl x2), (3, .inl x3), (4, .inl 1)] (mq_psh w [.inl (σ 5 r0 6), .inr (.inl (some (5, r0)))]) M) := id rfl
theorem T53_146 (F d f r0 : Nat) (x1 x2 x3 : Int32) (c : Nat → Nat) (σ : mSg) (τ : mLg) :
    pL F d 53 (f + 13) 146 [(0, .inr (some (5, r0))), (1, .inl x1), (2, .inl x2), (3, .inl x3)] [] (c, σ, pr, τ) = some (.inl (some (.inl (-1))), (c, (mq_up σ 5 r0 6 ((σ 5 r0 6) + 4)), pr, τ)) := id rfl
/-! PartitionKernel$Machine.load(LPartitionKernel$Proc;ILPartitionKernel$Memory;)I -/
theorem T54 (F d r0 r2 : Nat) (x1 : Int32) (c : Nat → Nat) (σ : mSg) (τ : mLg) :
    pX F (d + 1) 54 [.inr (some (5, r0)), .inl x1, .inr (some (3, r2))] (c, σ, pr, τ) = pL F d 54 F 0 [(0, .inr (some (5, r0))), (1, .inl x1), (2, .inr (some (3, r2)))] [] (c, σ, pr, τ) := id rfl
theorem T54_0 (F d f r0 r2 : Nat) (x1 : Int32) (c : Nat → Nat) (σ : mSg) (τ : mLg) :
    pL F d 54 (f + 2) 0 [(0, .inr (some (5, r0))), (1, .inl x1), (2, .inr (some (3, r2)))] [] (c, σ, pr, τ) = mq_ks (pX F d 61 [.inl x1] (c, σ, pr, τ)) (fun w M => pL F d 54 f 4 [(0, .inr (some (5, r0))), (1, .inl x1), (2, .inr (some (3, r2)))] (mq_psh w []) M) := id rfl
theorem T54_4 (F d f r0 r2 : Nat) (x1 x_0 : Int32) (c : Nat → Nat) (σ : mSg) (τ : mLg) :
    pL F d 54 (f + 4) 4 [(0, .inr (some (5, r0))), (1, .inl x1), (2, .inr (some (3, r2)))] [.inl x_0] (c, σ, pr, τ) = (if x_0 = 3 then pL F d 54 f 15 [(0, .inr (some (5, r0))), (1, .inl x1), (2, .inr (some (3, r2))), (3, .inl x_0)] [] (c, σ, pr, τ) else pL F d 54 f 10 [(0, .inr (some (5, r0))), (1, .inl x1), (2, .inr (some (3, r2))), (3, .inl x_0)] [] (c, σ, pr, τ)) := id rfl
theorem T54_15 (F d f r0 r2 : Nat) (x1 x3 : Int32) (c : Nat → Nat) (σ : mSg) (τ : mLg) :
    pL F d 54 (f + 2) 15 [(0, .inr (some (5, r0))), (1, .inl x1), (2, .inr (some (3, r2))), (3, .inl x3)] [] (c, σ, pr, τ) = some (.inl (some (.inl 0)), (c, σ, pr, τ)) := id rfl
theorem T54_10 (F d f r0 r2 : Nat) (x1 x3 : Int32) (c : Nat → Nat) (σ : mSg) (τ : mLg) :
    pL F d 54 (f + 3) 10 [(0, .inr (some (5, r0))), (1, .inl x1), (2, .inr (some (3, r2))), (3, .inl x3)] [] (c, σ, pr, τ) = (if 5 < x3 then pL F d 54 f 15 [(0, .inr (some (5, r0))), (1, .inl x1), (2, .inr (some (3, r2))), (3, .inl x3)] [] (c, σ, pr, τ) else pL F d 54 f 17 [(0, .inr (some (5, r0))), (1, .inl x1), (2, .inr (some (3, r2))), (3, .inl x3)] [] (c, σ, pr, τ)) := id rfl
theorem T54_17 (F d f r0 r2 : Nat) (x1 x3 : Int32) (c : Nat → Nat) (σ : mSg) (τ : mLg) :
    pL F d 54 (f + 3) 17 [(0, .inr (some (5, r0))), (1, .inl x1), (2, .inr (some (3, r2))), (3, .inl x3)] [] (c, σ, pr, τ) = mq_ks (pX F d 63 [.inr (some (5, r0)), .inl x1] (c, σ, pr, τ)) (fun w M => pL F d 54 f 22 [(0, .inr (some (5, r0))), (1, .inl x1), (2, .inr (some (3, r2))), (3, .inl x3)] (mq_psh w []) M) := id rfl
theorem T54_22 (F d f r0 r2 : Nat) (x1 x3 x_0 : Int32) (c : Nat → Nat) (σ : mSg) (τ : mLg) :
    pL F d 54 (f + 2) 22 [(0, .inr (some (5, r0))), (1, .inl x1), (2, .inr (some (3, r2))), (3, .inl x3)] [.inl x_0] (c, σ, pr, τ) = mq_ks (pX F d 65 [.inl x1] (c, σ, pr, τ)) (fun w M => pL F d 54 f 26 [(0, .inr (some (5, r0))), (1, .inl x1), (2, .inr (some (3, r2))), (3, .inl x3)] (mq_psh w [.inl x_0]) M) := id rfl
theorem T54_26 (F d f r0 r2 : Nat) (x1 x3 x_0 x_1 : Int32) (c : Nat → Nat) (σ : mSg) (τ : mLg) :
    pL F d 54 (f + 9) 26 [(0, .inr (some (5, r0))), (1, .inl x1), (2, .inr (some (3, r2))), (3, .inl x3)] [.inl x_0, .inl x_1] (c, σ, pr, τ) = mq_ks (pX F d 16 [.inl (x_1 + x_0), .inl (1 <<< ((x3 &&& 3) &&& 31))] (c, σ, pr, τ)) (fun w M => pL F d 54 f 39 [(0, .inr (some (5, r0))), (1, .inl x1), (2, .inr (some (3, r2))), (3, .inl x3), (4, .inl (x_1 + x_0))] (mq_psh w []) M) := id rfl
theorem T54_39 (F d f r0 r2 : Nat) (x1 x3 x4 x_0 : Int32) (c : Nat → Nat) (σ : mSg) (τ : mLg) :
    pL F d 54 (f + 1) 39 [(0, .inr (some (5, r0))), (1, .inl x1), (2, .inr (some (3, r2))), (3, .inl x3), (4, .inl x4)] [.inl x_0] (c, σ, pr, τ) = (if x_0 = 0 then pL F d 54 f 42 [(0, .inr (some (5, r0))), (1, .inl x1), (2, .inr (some (3, r2))), (3, .inl x3), (4, .inl x4)] [] (c, σ, pr, τ) else pL F d 54 f 44 [(0, .inr (some (5, r0))), (1, .inl x1), (2, .inr (some (3, r2))), (3, .inl x3), (4, .inl x4)] [] (c, σ, pr, τ)) := id rfl
theorem T54_42 (F d f r0 r2 : Nat) (x1 x3 x4 : Int32) (c : Nat → Nat) (σ : mSg) (τ : mLg) :
    pL F d 54 (f + 2) 42 [(0, .inr (some (5, r0))), (1, .inl x1), (2, .inr (some (3, r2))), (3, .inl x3), (4, .inl x4)] [] (c, σ, pr, τ) = some (.inl (some (.inl 1)), (c, σ, pr, τ)) := id rfl
theorem T54_44 (F d f r0 r2 : Nat) (x1 x3 x4 : Int32) (c : Nat → Nat) (σ : mSg) (τ : mLg) :
    pL F d 54 (f + 5) 44 [(0, .inr (some (5, r0))), (1, .inl x1), (2, .inr (some (3, r2))), (3, .inl x3), (4, .inl x4)] [] (c, σ, pr, τ) = mq_kv (pX F d 19 [.inr (some (3, r2)), .inl x4] (c, σ, pr, τ)) (fun w M => pL F d 54 f 52 [(0, .inr (some (5, r0))), (1, .inl x1), (2, .inr (some (3, r2))), (3, .inl x3), (4, .inl x4)] (mq_psh w [.inl x1, .inr (.inl (some (5, r0)))]) M) := id rfl
theorem T54_52 (F d f r0 r2 r_2 : Nat) (x1 x3 x4 x_0 x_1 : Int32) (c : Nat → Nat) (σ : mSg) (τ : mLg) :
    pL F d 54 (f + 2) 52 [(0, .inr (some (5, r0))), (1, .inl x1), (2, .inr (some (3, r2))), (3, .inl x3), (4, .inl x4)] [.inl x_0, .inl x_1, .inr (.inl (some (5, r_2)))] (c, σ, pr, τ) = mq_ks (pX F d 55 [.inl x_0, .inl x3] (c, σ, pr, τ)) (fun w M => pL F d 54 f 56 [(0, .inr (some (5, r0))), (1, .inl x1), (2, .inr (some (3, r2))), (3, .inl x3), (4, .inl x4)] (mq_psh w [.inl x_1, .inr (.inl (some (5, r_2)))]) M) := id rfl
theorem T54_56 (F d f r0 r2 r_2 : Nat) (x1 x3 x4 x_0 x_1 : Int32) (c : Nat → Nat) (σ : mSg) (τ : mLg) :
    pL F d 54 (f + 5) 56 [(0, .inr (some (5, r0))), (1, .inl x1), (2, .inr (some (3, r2))), (3, .inl x3), (4, .inl x4)] [.inl x_0, .inl x_1, .inr (.inl (some (5, r_2)))] (c, σ, pr, τ) = mq_ks (pX F d 51 [.inr (some (5, r_2)), .inl x_1, .inl x_0, .inl ((σ 5 r0 6) + 4)] (c, σ, pr, τ)) (fun w M => pL F d 54 f 65 [(0, .inr (some (5, r0))), (1, .inl x1), (2, .inr (some (3, r2))), (3, .inl x3), (4, .inl x4)] (mq_psh w []) M) := id rfl
theorem T54_65 (F d f r0 r2 : Nat) (x1 x3 x4 x_0 : Int32) (c : Nat → Nat) (σ : mSg) (τ : mLg) :
    pL F d 54 (f + 1) 65 [(0, .inr (some (5, r0))), (1, .inl x1), (2, .inr (some (3, r2))), (3, .inl x3), (4, .inl x4)] [.inl x_0] (c, σ, pr, τ) = some (.inl (some (.inl x_0)), (c, σ, pr, τ)) := id rfl
/-! PartitionKernel$Machine.widened(II)I -/
theorem T55 (F d : Nat) (x0 x1 : Int32) (c : Nat → Nat) (σ : mSg) (τ : mLg) :
    pX F (d + 1) 55 [.inl x0, .inl x1] (c, σ, pr, τ) = pL F d 55 F 0 [(0, .inl x0), (1, .inl x1)] [] (c, σ, pr, τ) := id rfl
theorem T55_0 (F d f : Nat) (x0 x1 : Int32) (c : Nat → Nat) (σ : mSg) (τ : mLg) :
    pL F d 55 (f + 2) 0 [(0, .inl x0), (1, .inl x1)] [] (c, σ, pr, τ) = pL F d 55 f (mq_swt x1 57 [(0, 40), (1, 43), (2, 57), (3, 57), (4, 46), (5, 52)]) [(0, .inl x0), (1, .inl x1)] [] (c, σ, pr, τ) := id rfl
theorem T55_40 (F d f : Nat) (x0 x1 : Int32) (c : Nat → Nat) (σ : mSg) (τ : mLg) :
    pL F d 55 (f + 3) 40 [(0, .inl x0), (1, .inl x1)] [] (c, σ, pr, τ) = some (.inl (some (.inl (Int8.toInt32 (Int32.toInt8 x0)))), (c, σ, pr, τ)) := id rfl
theorem T55_43 (F d f : Nat) (x0 x1 : Int32) (c : Nat → Nat) (σ : mSg) (τ : mLg) :
    pL F d 55 (f + 3) 43 [(0, .inl x0), (1, .inl x1)] [] (c, σ, pr, τ) = some (.inl (some (.inl (Int16.toInt32 (Int32.toInt16 x0)))), (c, σ, pr, τ)) := id rfl
theorem T55_46 (F d f : Nat) (x0 x1 : Int32) (c : Nat → Nat) (σ : mSg) (τ : mLg) :
    pL F d 55 (f + 4) 46 [(0, .inl x0), (1, .inl x1)] [] (c, σ, pr, τ) = some (.inl (some (.inl (x0 &&& 255))), (c, σ, pr, τ)) := id rfl
theorem T55_52 (F d f : Nat) (x0 x1 : Int32) (c : Nat → Nat) (σ : mSg) (τ : mLg) :
    pL F d 55 (f + 4) 52 [(0, .inl x0), (1, .inl x1)] [] (c, σ, pr, τ) = some (.inl (some (.inl (x0 &&& 65535))), (c, σ, pr, τ)) := id rfl
theorem T55_57 (F d f : Nat) (x0 x1 : Int32) (c : Nat → Nat) (σ : mSg) (τ : mLg) :
    pL F d 55 (f + 2) 57 [(0, .inl x0), (1, .inl x1)] [] (c, σ, pr, τ) = some (.inl (some (.inl x0)), (c, σ, pr, τ)) := id rfl
/-! PartitionKernel$Machine.store(LPartitionKernel$Proc;ILPartitionKernel$Memory;)I -/
theorem T56 (F d r0 r2 : Nat) (x1 : Int32) (c : Nat → Nat) (σ : mSg) (τ : mLg) :
    pX F (d + 1) 56 [.inr (some (5, r0)), .inl x1, .inr (some (3, r2))] (c, σ, pr, τ) = pL F d 56 F 0 [(0, .inr (some (5, r0))), (1, .inl x1), (2, .inr (some (3, r2)))] [] (c, σ, pr, τ) := id rfl
theorem T56_0 (F d f r0 r2 : Nat) (x1 : Int32) (c : Nat → Nat) (σ : mSg) (τ : mLg) :
    pL F d 56 (f + 2) 0 [(0, .inr (some (5, r0))), (1, .inl x1), (2, .inr (some (3, r2)))] [] (c, σ, pr, τ) = mq_ks (pX F d 61 [.inl x1] (c, σ, pr, τ)) (fun w M => pL F d 56 f 4 [(0, .inr (some (5, r0))), (1, .inl x1), (2, .inr (some (3, r2)))] (mq_psh w []) M) := id rfl
theorem T56_4 (F d f r0 r2 : Nat) (x1 x_0 : Int32) (c : Nat → Nat) (σ : mSg) (τ : mLg) :
    pL F d 56 (f + 4) 4 [(0, .inr (some (5, r0))), (1, .inl x1), (2, .inr (some (3, r2)))] [.inl x_0] (c, σ, pr, τ) = (if 2 < x_0 then pL F d 56 f 10 [(0, .inr (some (5, r0))), (1, .inl x1), (2, .inr (some (3, r2))), (3, .inl x_0)] [] (c, σ, pr, τ) else pL F d 56 f 12 [(0, .inr (some (5, r0))), (1, .inl x1), (2, .inr (some (3, r2))), (3, .inl x_0)] [] (c, σ, pr, τ)) := id rfl
theorem T56_10 (F d f r0 r2 : Nat) (x1 x3 : Int32) (c : Nat → Nat) (σ : mSg) (τ : mLg) :
    pL F d 56 (f + 2) 10 [(0, .inr (some (5, r0))), (1, .inl x1), (2, .inr (some (3, r2))), (3, .inl x3)] [] (c, σ, pr, τ) = some (.inl (some (.inl 0)), (c, σ, pr, τ)) := id rfl
theorem T56_12 (F d f r0 r2 : Nat) (x1 x3 : Int32) (c : Nat → Nat) (σ : mSg) (τ : mLg) :
    pL F d 56 (f + 3) 12 [(0, .inr (some (5, r0))), (1, .inl x1), (2, .inr (some (3, r2))), (3, .inl x3)] [] (c, σ, pr, τ) = mq_ks (pX F d 63 [.inr (some (5, r0)), .inl x1] (c, σ, pr, τ)) (fun w M => pL F d 56 f 17 [(0, .inr (some (5, r0))), (1, .inl x1), (2, .inr (some (3, r2))), (3, .inl x3)] (mq_psh w []) M) := id rfl
theorem T56_17 (F d f r0 r2 : Nat) (x1 x3 x_0 : Int32) (c : Nat → Nat) (σ : mSg) (τ : mLg) :
    pL F d 56 (f + 2) 17 [(0, .inr (some (5, r0))), (1, .inl x1), (2, .inr (some (3, r2))), (3, .inl x3)] [.inl x_0] (c, σ, pr, τ) = mq_ks (pX F d 67 [.inl x1] (c, σ, pr, τ)) (fun w M => pL F d 56 f 21 [(0, .inr (some (5, r0))), (1, .inl x1), (2, .inr (some (3, r2))), (3, .inl x3)] (mq_psh w [.inl x_0]) M) := id rfl
theorem T56_21 (F d f r0 r2 : Nat) (x1 x3 x_0 x_1 : Int32) (c : Nat → Nat) (σ : mSg) (τ : mLg) :
    pL F d 56 (f + 7) 21 [(0, .inr (some (5, r0))), (1, .inl x1), (2, .inr (some (3, r2))), (3, .inl x3)] [.inl x_0, .inl x_1] (c, σ, pr, τ) = mq_ks (pX F d 16 [.inl (x_1 + x_0), .inl (1 <<< (x3 &&& 31))] (c, σ, pr, τ)) (fun w M => pL F d 56 f 32 [(0, .inr (some (5, r0))), (1, .inl x1), (2, .inr (some (3, r2))), (3, .inl x3), (4, .inl (x_1 + x_0))] (mq_psh w []) M) := id rfl
theorem T56_32 (F d f r0 r2 : Nat) (x1 x3 x4 x_0 : Int32) (c : Nat → Nat) (σ : mSg) (τ : mLg) :
    pL F d 56 (f + 1) 32 [(0, .inr (some (5, r0))), (1, .inl x1), (2, .inr (some (3, r2))), (3, .inl x3), (4, .inl x4)] [.inl x_0] (c, σ, pr, τ) = (if x_0 = 0 then pL F d 56 f 35 [(0, .inr (some (5, r0))), (1, .inl x1), (2, .inr (some (3, r2))), (3, .inl x3), (4, .inl x4)] [] (c, σ, pr, τ) else pL F d 56 f 37 [(0, .inr (some (5, r0))), (1, .inl x1), (2, .inr (some (3, r2))), (3, .inl x3), (4, .inl x4)] [] (c, σ, pr, τ)) := id rfl
theorem T56_35 (F d f r0 r2 : Nat) (x1 x3 x4 : Int32) (c : Nat → Nat) (σ : mSg) (τ : mLg) :
    pL F d 56 (f + 2) 35 [(0, .inr (some (5, r0))), (1, .inl x1), (2, .inr (some (3, r2))), (3, .inl x3), (4, .inl x4)] [] (c, σ, pr, τ) = some (.inl (some (.inl 1)), (c, σ, pr, τ)) := id rfl
theorem T56_37 (F d f r0 r2 : Nat) (x1 x3 x4 : Int32) (c : Nat → Nat) (σ : mSg) (τ : mLg) :
    pL F d 56 (f + 8) 37 [(0, .inr (some (5, r0))), (1, .inl x1), (2, .inr (some (3, r2))), (3, .inl x3), (4, .inl x4)] [] (c, σ, pr, τ) = mq_ks (pX F d 64 [.inr (some (5, r0)), .inl x1] (c, σ, pr, τ)) (fun w M => pL F d 56 f 48 [(0, .inr (some (5, r0))), (1, .inl x1), (2, .inr (some (3, r2))), (3, .inl x3), (4, .inl x4)] (mq_psh w [.inl (1 <<< (x3 &&& 31)), .inl x4, .inr (.inl (some (3, r2)))]) M) := id rfl
theorem T56_48 (F d f r0 r2 r_3 : Nat) (x1 x3 x4 x_0 x_1 x_2 : Int32) (c : Nat → Nat) (σ : mSg) (τ : mLg) :
    pL F d 56 (f + 1) 48 [(0, .inr (some (5, r0))), (1, .inl x1), (2, .inr (some (3, r2))), (3, .inl x3), (4, .inl x4)] [.inl x_0, .inl x_1, .inl x_2, .inr (.inl (some (3, r_3)))] (c, σ, pr, τ) = mq_kv (pX F d 20 [.inr (some (3, r_3)), .inl x_2, .inl x_1, .inl x_0] (c, σ, pr, τ)) (fun w M => pL F d 56 f 51 [(0, .inr (some (5, r0))), (1, .inl x1), (2, .inr (some (3, r2))), (3, .inl x3), (4, .inl x4)] (mq_psh w []) M) := id rfl
theorem T56_51 (F d f r0 r2 : Nat) (x1 x3 x4 : Int32) (c : Nat → Nat) (σ : mSg) (τ : mLg) :
    pL F d 56 (f + 8) 51 [(0, .inr (some (5, r0))), (1, .inl x1), (2, .inr (some (3, r2))), (3, .inl x3), (4, .inl x4)] [] (c, σ, pr, τ) = some (.inl (some (.inl (-1))), (c, (mq_up σ 5 r0 6 ((σ 5 r0 6) + 4)), pr, τ)) := id rfl
/-! PartitionKernel$Machine.reckonWithImmediate(LPartitionKernel$Proc;I)I -/
theorem T57 (F d r0 : Nat) (x1 : Int32) (c : Nat → Nat) (σ : mSg) (τ : mLg) :
    pX F (d + 1) 57 [.inr (some (5, r0)), .inl x1] (c, σ, pr, τ) = pL F d 57 F 0 [(0, .inr (some (5, r0))), (1, .inl x1)] [] (c, σ, pr, τ) := id rfl
theorem T57_0 (F d f r0 : Nat) (x1 : Int32) (c : Nat → Nat) (σ : mSg) (τ : mLg) :
    pL F d 57 (f + 2) 0 [(0, .inr (some (5, r0))), (1, .inl x1)] [] (c, σ, pr, τ) = mq_ks (pX F d 61 [.inl x1] (c, σ, pr, τ)) (fun w M => pL F d 57 f 4 [(0, .inr (some (5, r0))), (1, .inl x1)] (mq_psh w []) M) := id rfl
theorem T57_4 (F d f r0 : Nat) (x1 x_0 : Int32) (c : Nat → Nat) (σ : mSg) (τ : mLg) :
    pL F d 57 (f + 4) 4 [(0, .inr (some (5, r0))), (1, .inl x1)] [.inl x_0] (c, σ, pr, τ) = (if x_0 = 1 then pL F d 57 f 15 [(0, .inr (some (5, r0))), (1, .inl x1), (2, .inl x_0)] [] (c, σ, pr, τ) else pL F d 57 f 10 [(0, .inr (some (5, r0))), (1, .inl x1), (2, .inl x_0)] [] (c, σ, pr, τ)) := id rfl
theorem T57_15 (F d f r0 : Nat) (x1 x2 : Int32) (c : Nat → Nat) (σ : mSg) (τ : mLg) :
    pL F d 57 (f + 6) 15 [(0, .inr (some (5, r0))), (1, .inl x1), (2, .inl x2)] [] (c, σ, pr, τ) = (if x2 = 5 then pL F d 57 f 26 [(0, .inr (some (5, r0))), (1, .inl x1), (2, .inl x2), (3, .inl 1)] [] (c, σ, pr, τ) else pL F d 57 f 39 [(0, .inr (some (5, r0))), (1, .inl x1), (2, .inl x2), (3, .inl 1)] [] (c, σ, pr, τ)) := id rfl
theorem T57_10 (F d f r0 : Nat) (x1 x2 : Int32) (c : Nat → Nat) (σ : mSg) (τ : mLg) :
    pL F d 57 (f + 3) 10 [(0, .inr (some (5, r0))), (1, .inl x1), (2, .inl x2)] [] (c, σ, pr, τ) = (if x2 = 5 then pL F d 57 f 15 [(0, .inr (some (5, r0))), (1, .inl x1), (2, .inl x2)] [] (c, σ, pr, τ) else pL F d 57 f 19 [(0, .inr (some (5, r0))), (1, .inl x1), (2, .inl x2)] [] (c, σ, pr, τ)) := id rfl
theorem T57_26 (F d f r0 : Nat) (x1 x2 x3 : Int32) (c : Nat → Nat) (σ : mSg) (τ : mLg) :
    pL F d 57 (f + 2) 26 [(0, .inr (some (5, r0))), (1, .inl x1), (2, .inl x2), (3, .inl x3)] [] (c, σ, pr, τ) = mq_ks (pX F d 62 [.inl x1] (c, σ, pr, τ)) (fun w M => pL F d 57 f 30 [(0, .inr (some (5, r0))), (1, .inl x1), (2, .inl x2), (3, .inl x3)] (mq_psh w []) M) := id rfl
theorem T57_39 (F d f r0 : Nat) (x1 x2 x3 : Int32) (c : Nat → Nat) (σ : mSg) (τ : mLg) :
    pL F d 57 (f + 4) 39 [(0, .inr (some (5, r0))), (1, .inl x1), (2, .inl x2), (3, .inl x3)] [] (c, σ, pr, τ) = (if x3 = 0 then pL F d 57 f 60 [(0, .inr (some (5, r0))), (1, .inl x1), (2, .inl x2), (3, .inl x3), (4, .inl 0)] [] (c, σ, pr, τ) else pL F d 57 f 46 [(0, .inr (some (5, r0))), (1, .inl x1), (2, .inl x2), (3, .inl x3), (4, .inl 0)] [] (c, σ, pr, τ)) := id rfl
theorem T57_19 (F d f r0 : Nat) (x1 x2 : Int32) (c : Nat → Nat) (σ : mSg) (τ : mLg) :
    pL F d 57 (f + 5) 19 [(0, .inr (some (5, r0))), (1, .inl x1), (2, .inl x2)] [] (c, σ, pr, τ) = (if x2 = 5 then pL F d 57 f 26 [(0, .inr (some (5, r0))), (1, .inl x1), (2, .inl x2), (3, .inl 0)] [] (c, σ, pr, τ) else pL F d 57 f 39 [(0, .inr (some (5, r0))), (1, .inl x1), (2, .inl x2), (3, .inl 0)] [] (c, σ, pr, τ)) := id rfl
theorem T57_30 (F d f r0 : Nat) (x1 x2 x3 x_0 : Int32) (c : Nat → Nat) (σ : mSg) (τ : mLg) :
    pL F d 57 (f + 2) 30 [(0, .inr (some (5, r0))), (1, .inl x1), (2, .inl x2), (3, .inl x3)] [.inl x_0] (c, σ, pr, τ) = (if x_0 = 32 then pL F d 57 f 35 [(0, .inr (some (5, r0))), (1, .inl x1), (2, .inl x2), (3, .inl x3)] [] (c, σ, pr, τ) else pL F d 57 f 39 [(0, .inr (some (5, r0))), (1, .inl x1), (2, .inl x2), (3, .inl x3)] [] (c, σ, pr, τ)) := id rfl
theorem T57_60 (F d f r0 : Nat) (x1 x2 x3 x4 : Int32) (c : Nat → Nat) (σ : mSg) (τ : mLg) :
    pL F d 57 (f + 7) 60 [(0, .inr (some (5, r0))), (1, .inl x1), (2, .inl x2), (3, .inl x3), (4, .inl x4)] [] (c, σ, pr, τ) = mq_ks (pX F d 63 [.inr (some (5, r0)), .inl x1] (c, σ, pr, τ)) (fun w M => pL F d 57 f 70 [(0, .inr (some (5, r0))), (1, .inl x1), (2, .inl x2), (3, .inl x3), (4, .inl x4)] (mq_psh w [.inl x4, .inl x2, .inl x1, .inr (.inl (some (5, r0)))]) M) := id rfl
theorem T57_46 (F d f r0 : Nat) (x1 x2 x3 x4 : Int32) (c : Nat → Nat) (σ : mSg) (τ : mLg) :
    pL F d 57 (f + 2) 46 [(0, .inr (some (5, r0))), (1, .inl x1), (2, .inl x2), (3, .inl x3), (4, .inl x4)] [] (c, σ, pr, τ) = mq_ks (pX F d 62 [.inl x1] (c, σ, pr, τ)) (fun w M => pL F d 57 f 50 [(0, .inr (some (5, r0))), (1, .inl x1), (2, .inl x2), (3, .inl x3), (4, .inl x4)] (mq_psh w []) M) := id rfl
theorem T57_35 (F d f r0 : Nat) (x1 x2 x3 : Int32) (c : Nat → Nat) (σ : mSg) (τ : mLg) :
    pL F d 57 (f + 5) 35 [(0, .inr (some (5, r0))), (1, .inl x1), (2, .inl x2), (3, .inl x3)] [] (c, σ, pr, τ) = (if x3 = 0 then pL F d 57 f 60 [(0, .inr (some (5, r0))), (1, .inl x1), (2, .inl x2), (3, .inl x3), (4, .inl 1)] [] (c, σ, pr, τ) else pL F d 57 f 46 [(0, .inr (some (5, r0))), (1, .inl x1), (2, .inl x2), (3, .inl x3), (4, .inl 1)] [] (c, σ, pr, τ)) := id rfl
theorem T57_70 (F d f r0 r_4 : Nat) (x1 x2 x3 x4 x_0 x_1 x_2 x_3 : Int32) (c : Nat → Nat) (σ : mSg) (τ : mLg) :
    pL F d 57 (f + 2) 70 [(0, .inr (some (5, r0))), (1, .inl x1), (2, .inl x2), (3, .inl x3), (4, .inl x4)] [.inl x_0, .inl x_1, .inl x_2, .inl x_3, .inr (.inl (some (5, r_4)))] (c, σ, pr, τ) = mq_ks (pX F d 65 [.inl x1] (c, σ, pr, τ)) (fun w M => pL F d 57 f 74 [(0, .inr (some (5, r0))), (1, .inl x1), (2, .inl x2), (3, .inl x3), (4, .inl x4)] (mq_psh w [.inl x_0, .inl x_1, .inl x_2, .inl x_3, .inr (.inl (some (5, r_4)))]) M) := id rfl
theorem T57_50 (F d f r0 : Nat) (x1 x2 x3 x4 x_0 : Int32) (c : Nat → Nat) (σ : mSg) (τ : mLg) :
    pL F d 57 (f + 1) 50 [(0, .inr (some (5, r0))), (1, .inl x1), (2, .inl x2), (3, .inl x3), (4, .inl x4)] [.inl x_0] (c, σ, pr, τ) = (if x_0 = 0 then pL F d 57 f 60 [(0, .inr (some (5, r0))), (1, .inl x1), (2, .inl x2), (3, .inl x3), (4, .inl x4)] [] (c, σ, pr, τ) else pL F d 57 f 53 [(0, .inr (some (5, r0))), (1, .inl x1), (2, .inl x2), (3, .inl x3), (4, .inl x4)] [] (c, σ, pr, τ)) := id rfl
theorem T57_74 (F d f r0 r_5 : Nat) (x1 x2 x3 x4 x_0 x_1 x_2 x_3 x_4 : Int32) (c : Nat → Nat) (σ : mSg) (τ : mLg) :
    pL F d 57 (f + 1) 74 [(0, .inr (some (5, r0))), (1, .inl x1), (2, .inl x2), (3, .inl x3), (4, .inl x4)] [.inl x_0, .inl x_1, .inl x_2, .inl x_3, .inl x_4, .inr (.inl (some (5, r_5)))] (c, σ, pr, τ) = mq_ks (pX F d 59 [.inl x_3, .inl x_2, .inl x_1, .inl x_0] (c, σ, pr, τ)) (fun w M => pL F d 57 f 77 [(0, .inr (some (5, r0))), (1, .inl x1), (2, .inl x2), (3, .inl x3), (4, .inl x4)] (mq_psh w [.inl x_4, .inr (.inl (some (5, r_5)))]) M) := id rfl
theorem T57_53 (F d f r0 : Nat) (x1 x2 x3 x4 : Int32) (c : Nat → Nat) (σ : mSg) (τ : mLg) :
    pL F d 57 (f + 2) 53 [(0, .inr (some (5, r0))), (1, .inl x1), (2, .inl x2), (3, .inl x3), (4, .inl x4)] [] (c, σ, pr, τ) = (if x4 = 0 then pL F d 57 f 58 [(0, .inr (some (5, r0))), (1, .inl x1), (2, .inl x2), (3, .inl x3), (4, .inl x4)] [] (c, σ, pr, τ) else pL F d 57 f 60 [(0, .inr (some (5, r0))), (1, .inl x1), (2, .inl x2), (3, .inl x3), (4, .inl x4)] [] (c, σ, pr, τ)) := id rfl
theorem T57_77 (F d f r0 r_2 : Nat) (x1 x2 x3 x4 x_0 x_1 : Int32) (c : Nat → Nat) (σ : mSg) (τ : mLg) :
    pL F d 57 (f + 5) 77 [(0, .inr (some (5, r0))), (1, .inl x1), (2, .inl x2), (3, .inl x3), (4, .inl x4)] [.inl x_0, .inl x_1, .inr (.inl (some (5, r_2)))] (c, σ, pr, τ) = mq_ks (pX F d 51 [.inr (some (5, r_2)), .inl x_1, .inl x_0, .inl ((σ 5 r0 6) + 4)] (c, σ, pr, τ)) (fun w M => pL F d 57 f 86 [(0, .inr (some (5, r0))), (1, .inl x1), (2, .inl x2), (3, .inl x3), (4, .inl x4)] (mq_psh w []) M) := id rfl
theorem T57_58 (F d f r0 : Nat) (x1 x2 x3 x4 : Int32) (c : Nat → Nat) (σ : mSg) (τ : mLg) :
    pL F d 57 (f + 2) 58 [(0, .inr (some (5, r0))), (1, .inl x1), (2, .inl x2), (3, .inl x3), (4, .inl x4)] [] (c, σ, pr, τ) = some (.inl (some (.inl 0)), (c, σ, pr, τ)) := id rfl
theorem T57_86 (F d f r0 : Nat) (x1 x2 x3 x4 x_0 : Int32) (c : Nat → Nat) (σ : mSg) (τ : mLg) :
    pL F d 57 (f + 1) 86 [(0, .inr (some (5, r0))), (1, .inl x1), (2, .inl x2), (3, .inl x3), (4, .inl x4)] [.inl x_0] (c, σ, pr, τ) = some (.inl (some (.inl x_0)), (c, σ, pr, τ)) := id rfl
/-! PartitionKernel$Machine.reckonWithRegister(LPartitionKernel$Proc;I)I -/
theorem T58 (F d r0 : Nat) (x1 : Int32) (c : Nat → Nat) (σ : mSg) (τ : mLg) :
    pX F (d + 1) 58 [.inr (some (5, r0)), .inl x1] (c, σ, pr, τ) = pL F d 58 F 0 [(0, .inr (some (5, r0))), (1, .inl x1)] [] (c, σ, pr, τ) := id rfl
theorem T58_0 (F d f r0 : Nat) (x1 : Int32) (c : Nat → Nat) (σ : mSg) (τ : mLg) :
    pL F d 58 (f + 2) 0 [(0, .inr (some (5, r0))), (1, .inl x1)] [] (c, σ, pr, τ) = mq_ks (pX F d 61 [.inl x1] (c, σ, pr, τ)) (fun w M => pL F d 58 f 4 [(0, .inr (some (5, r0))), (1, .inl x1)] (mq_psh w []) M) := id rfl
theorem T58_4 (F d f r0 : Nat) (x1 x_0 : Int32) (c : Nat → Nat) (σ : mSg) (τ : mLg) :
    pL F d 58 (f + 3) 4 [(0, .inr (some (5, r0))), (1, .inl x1)] [.inl x_0] (c, σ, pr, τ) = (if x_0 = 0 then pL F d 58 f 14 [(0, .inr (some (5, r0))), (1, .inl x1), (2, .inl x_0)] [] (c, σ, pr, τ) else pL F d 58 f 9 [(0, .inr (some (5, r0))), (1, .inl x1), (2, .inl x_0)] [] (c, σ, pr, τ)) := id rfl
theorem T58_14 (F d f r0 : Nat) (x1 x2 : Int32) (c : Nat → Nat) (σ : mSg) (τ : mLg) :
    pL F d 58 (f + 2) 14 [(0, .inr (some (5, r0))), (1, .inl x1), (2, .inl x2)] [] (c, σ, pr, τ) = mq_ks (pX F d 62 [.inl x1] (c, σ, pr, τ)) (fun w M => pL F d 58 f 18 [(0, .inr (some (5, r0))), (1, .inl x1), (2, .inl x2)] (mq_psh w []) M) := id rfl
theorem T58_9 (F d f r0 : Nat) (x1 x2 : Int32) (c : Nat → Nat) (σ : mSg) (τ : mLg) :
    pL F d 58 (f + 3) 9 [(0, .inr (some (5, r0))), (1, .inl x1), (2, .inl x2)] [] (c, σ, pr, τ) = (if x2 = 5 then pL F d 58 f 14 [(0, .inr (some (5, r0))), (1, .inl x1), (2, .inl x2)] [] (c, σ, pr, τ) else pL F d 58 f 27 [(0, .inr (some (5, r0))), (1, .inl x1), (2, .inl x2)] [] (c, σ, pr, τ)) := id rfl
theorem T58_18 (F d f r0 : Nat) (x1 x2 x_0 : Int32) (c : Nat → Nat) (σ : mSg) (τ : mLg) :
    pL F d 58 (f + 2) 18 [(0, .inr (some (5, r0))), (1, .inl x1), (2, .inl x2)] [.inl x_0] (c, σ, pr, τ) = (if x_0 = 32 then pL F d 58 f 23 [(0, .inr (some (5, r0))), (1, .inl x1), (2, .inl x2)] [] (c, σ, pr, τ) else pL F d 58 f 27 [(0, .inr (some (5, r0))), (1, .inl x1), (2, .inl x2)] [] (c, σ, pr, τ)) := id rfl
theorem T58_27 (F d f r0 : Nat) (x1 x2 : Int32) (c : Nat → Nat) (σ : mSg) (τ : mLg) :
    pL F d 58 (f + 4) 27 [(0, .inr (some (5, r0))), (1, .inl x1), (2, .inl x2)] [] (c, σ, pr, τ) = mq_ks (pX F d 62 [.inl x1] (c, σ, pr, τ)) (fun w M => pL F d 58 f 33 [(0, .inr (some (5, r0))), (1, .inl x1), (2, .inl x2), (3, .inl 0)] (mq_psh w []) M) := id rfl
theorem T58_23 (F d f r0 : Nat) (x1 x2 : Int32) (c : Nat → Nat) (σ : mSg) (τ : mLg) :
    pL F d 58 (f + 5) 23 [(0, .inr (some (5, r0))), (1, .inl x1), (2, .inl x2)] [] (c, σ, pr, τ) = mq_ks (pX F d 62 [.inl x1] (c, σ, pr, τ)) (fun w M => pL F d 58 f 33 [(0, .inr (some (5, r0))), (1, .inl x1), (2, .inl x2), (3, .inl 1)] (mq_psh w []) M) := id rfl
theorem T58_33 (F d f r0 : Nat) (x1 x2 x3 x_0 : Int32) (c : Nat → Nat) (σ : mSg) (τ : mLg) :
    pL F d 58 (f + 1) 33 [(0, .inr (some (5, r0))), (1, .inl x1), (2, .inl x2), (3, .inl x3)] [.inl x_0] (c, σ, pr, τ) = (if x_0 = 0 then pL F d 58 f 42 [(0, .inr (some (5, r0))), (1, .inl x1), (2, .inl x2), (3, .inl x3)] [] (c, σ, pr, τ) else pL F d 58 f 36 [(0, .inr (some (5, r0))), (1, .inl x1), (2, .inl x2), (3, .inl x3)] [] (c, σ, pr, τ)) := id rfl
theorem T58_42 (F d f r0 : Nat) (x1 x2 x3 : Int32) (c : Nat → Nat) (σ : mSg) (τ : mLg) :
    pL F d 58 (f + 7) 42 [(0, .inr (some (5, r0))), (1, .inl x1), (2, .inl x2), (3, .inl x3)] [] (c, σ, pr, τ) = mq_ks (pX F d 63 [.inr (some (5, r0)), .inl x1] (c, σ, pr, τ)) (fun w M => pL F d 58 f 51 [(0, .inr (some (5, r0))), (1, .inl x1), (2, .inl x2), (3, .inl x3)] (mq_psh w [.inl x3, .inl x2, .inl x1, .inr (.inl (some (5, r0)))]) M) := id rfl
theorem T58_36 (F d f r0 : Nat) (x1 x2 x3 : Int32) (c : Nat → Nat) (σ : mSg) (τ : mLg) :
    pL F d 58 (f + 2) 36 [(0, .inr (some (5, r0))), (1, .inl x1), (2, .inl x2), (3, .inl x3)] [] (c, σ, pr, τ) = (if x3 = 0 then pL F d 58 f 40 [(0, .inr (some (5, r0))), (1, .inl x1), (2, .inl x2), (3, .inl x3)] [] (c, σ, pr, τ) else pL F d 58 f 42 [(0, .inr (some (5, r0))), (1, .inl x1), (2, .inl x2), (3, .inl x3)] [] (c, σ, pr, τ)) := id rfl
theorem T58_51 (F d f r0 r_4 : Nat) (x1 x2 x3 x_0 x_1 x_2 x_3 : Int32) (c : Nat → Nat) (σ : mSg) (τ : mLg) :
    pL F d 58 (f + 3) 51 [(0, .inr (some (5, r0))), (1, .inl x1), (2, .inl x2), (3, .inl x3)] [.inl x_0, .inl x_1, .inl x_2, .inl x_3, .inr (.inl (some (5, r_4)))] (c, σ, pr, τ) = mq_ks (pX F d 64 [.inr (some (5, r0)), .inl x1] (c, σ, pr, τ)) (fun w M => pL F d 58 f 56 [(0, .inr (some (5, r0))), (1, .inl x1), (2, .inl x2), (3, .inl x3)] (mq_psh w [.inl x_0, .inl x_1, .inl x_2, .inl x_3, .inr (.inl (some (5, r_4)))]) M) := id rfl
theorem T58_40 (F d f r0 : Nat) (x1 x2 x3 : Int32) (c : Nat → Nat) (σ : mSg) (τ : mLg) :
    pL F d 58 (f + 2) 40 [(0, .inr (some (5, r0))), (1, .inl x1), (2, .inl x2), (3, .inl x3)] [] (c, σ, pr, τ) = some (.inl (some (.inl 0)), (c, σ, pr, τ)) := id rfl
theorem T58_56 (F d f r0 r_5 : Nat) (x1 x2 x3 x_0 x_1 x_2 x_3 x_4 : Int32) (c : Nat → Nat) (σ : mSg) (τ : mLg) :
    pL F d 58 (f + 1) 56 [(0, .inr (some (5, r0))), (1, .inl x1), (2, .inl x2), (3, .inl x3)] [.inl x_0, .inl x_1, .inl x_2, .inl x_3, .inl x_4, .inr (.inl (some (5, r_5)))] (c, σ, pr, τ) = mq_ks (pX F d 59 [.inl x_3, .inl x_2, .inl x_1, .inl x_0] (c, σ, pr, τ)) (fun w M => pL F d 58 f 59 [(0, .inr (some (5, r0))), (1, .inl x1), (2, .inl x2), (3, .inl x3)] (mq_psh w [.inl x_4, .inr (.inl (some (5, r_5)))]) M) := id rfl
theorem T58_59 (F d f r0 r_2 : Nat) (x1 x2 x3 x_0 x_1 : Int32) (c : Nat → Nat) (σ : mSg) (τ : mLg) :
    pL F d 58 (f + 5) 59 [(0, .inr (some (5, r0))), (1, .inl x1), (2, .inl x2), (3, .inl x3)] [.inl x_0, .inl x_1, .inr (.inl (some (5, r_2)))] (c, σ, pr, τ) = mq_ks (pX F d 51 [.inr (some (5, r_2)), .inl x_1, .inl x_0, .inl ((σ 5 r0 6) + 4)] (c, σ, pr, τ)) (fun w M => pL F d 58 f 68 [(0, .inr (some (5, r0))), (1, .inl x1), (2, .inl x2), (3, .inl x3)] (mq_psh w []) M) := id rfl
theorem T58_68 (F d f r0 : Nat) (x1 x2 x3 x_0 : Int32) (c : Nat → Nat) (σ : mSg) (τ : mLg) :
    pL F d 58 (f + 1) 68 [(0, .inr (some (5, r0))), (1, .inl x1), (2, .inl x2), (3, .inl x3)] [.inl x_0] (c, σ, pr, τ) = some (.inl (some (.inl x_0)), (c, σ, pr, τ)) := id rfl
/-! PartitionKernel$Machine.reckon(IZII)I -/
theorem T59 (F d : Nat) (x0 x1 x2 x3 : Int32) (c : Nat → Nat) (σ : mSg) (τ : mLg) :
    pX F (d + 1) 59 [.inl x0, .inl x1, .inl x2, .inl x3] (c, σ, pr, τ) = pL F d 59 F 0 [(0, .inl x0), (1, .inl x1), (2, .inl x2), (3, .inl x3)] [] (c, σ, pr, τ) := id rfl
theorem T59_0 (F d f : Nat) (x0 x1 x2 x3 : Int32) (c : Nat → Nat) (σ : mSg) (τ : mLg) :
    pL F d 59 (f + 2) 0 [(0, .inl x0), (1, .inl x1), (2, .inl x2), (3, .inl x3)] [] (c, σ, pr, τ) = pL F d 59 f (mq_swt x0 109 [(0, 44), (1, 58), (2, 62), (3, 73), (4, 87), (5, 91), (6, 105)]) [(0, .inl x0), (1, .inl x1), (2, .inl x2), (3, .inl x3)] [] (c, σ, pr, τ) := id rfl
theorem T59_44 (F d f : Nat) (x0 x1 x2 x3 : Int32) (c : Nat → Nat) (σ : mSg) (τ : mLg) :
    pL F d 59 (f + 2) 44 [(0, .inl x0), (1, .inl x1), (2, .inl x2), (3, .inl x3)] [] (c, σ, pr, τ) = (if x1 = 0 then pL F d 59 f 54 [(0, .inl x0), (1, .inl x1), (2, .inl x2), (3, .inl x3)] [] (c, σ, pr, τ) else pL F d 59 f 48 [(0, .inl x0), (1, .inl x1), (2, .inl x2), (3, .inl x3)] [] (c, σ, pr, τ)) := id rfl
theorem T59_58 (F d f : Nat) (x0 x1 x2 x3 : Int32) (c : Nat → Nat) (σ : mSg) (τ : mLg) :
    pL F d 59 (f + 4) 58 [(0, .inl x0), (1, .inl x1), (2, .inl x2), (3, .inl x3)] [] (c, σ, pr, τ) = some (.inl (some (.inl (x2 <<< (x3 &&& 31)))), (c, σ, pr, τ)) := id rfl
theorem T59_62 (F d f : Nat) (x0 x1 x2 x3 : Int32) (c : Nat → Nat) (σ : mSg) (τ : mLg) :
    pL F d 59 (f + 3) 62 [(0, .inl x0), (1, .inl x1), (2, .inl x2), (3, .inl x3)] [] (c, σ, pr, τ) = (if x2 < x3 then pL F d 59 f 67 [(0, .inl x0), (1, .inl x1), (2, .inl x2), (3, .inl x3)] [] (c, σ, pr, τ) else pL F d 59 f 71 [(0, .inl x0), (1, .inl x1), (2, .inl x2), (3, .inl x3)] [] (c, σ, pr, τ)) := id rfl
theorem T59_73 (F d f : Nat) (x0 x1 x2 x3 : Int32) (c : Nat → Nat) (σ : mSg) (τ : mLg) :
    pL F d 59 (f + 3) 73 [(0, .inl x0), (1, .inl x1), (2, .inl x2), (3, .inl x3)] [] (c, σ, pr, τ) = mq_ks (pX F d 60 [.inl x2, .inl x3] (c, σ, pr, τ)) (fun w M => pL F d 59 f 78 [(0, .inl x0), (1, .inl x1), (2, .inl x2), (3, .inl x3)] (mq_psh w []) M) := id rfl
theorem T59_87 (F d f : Nat) (x0 x1 x2 x3 : Int32) (c : Nat → Nat) (σ : mSg) (τ : mLg) :
    pL F d 59 (f + 4) 87 [(0, .inl x0), (1, .inl x1), (2, .inl x2), (3, .inl x3)] [] (c, σ, pr, τ) = some (.inl (some (.inl (x2 ^^^ x3))), (c, σ, pr, τ)) := id rfl
theorem T59_91 (F d f : Nat) (x0 x1 x2 x3 : Int32) (c : Nat → Nat) (σ : mSg) (τ : mLg) :
    pL F d 59 (f + 2) 91 [(0, .inl x0), (1, .inl x1), (2, .inl x2), (3, .inl x3)] [] (c, σ, pr, τ) = (if x1 = 0 then pL F d 59 f 101 [(0, .inl x0), (1, .inl x1), (2, .inl x2), (3, .inl x3)] [] (c, σ, pr, τ) else pL F d 59 f 95 [(0, .inl x0), (1, .inl x1), (2, .inl x2), (3, .inl x3)] [] (c, σ, pr, τ)) := id rfl
theorem T59_105 (F d f : Nat) (x0 x1 x2 x3 : Int32) (c : Nat → Nat) (σ : mSg) (τ : mLg) :
    pL F d 59 (f + 4) 105 [(0, .inl x0), (1, .inl x1), (2, .inl x2), (3, .inl x3)] [] (c, σ, pr, τ) = some (.inl (some (.inl (x2 ||| x3))), (c, σ, pr, τ)) := id rfl
theorem T59_109 (F d f : Nat) (x0 x1 x2 x3 : Int32) (c : Nat → Nat) (σ : mSg) (τ : mLg) :
    pL F d 59 (f + 4) 109 [(0, .inl x0), (1, .inl x1), (2, .inl x2), (3, .inl x3)] [] (c, σ, pr, τ) = some (.inl (some (.inl (x2 &&& x3))), (c, σ, pr, τ)) := id rfl
theorem T59_54 (F d f : Nat) (x0 x1 x2 x3 : Int32) (c : Nat → Nat) (σ : mSg) (τ : mLg) :
    pL F d 59 (f + 4) 54 [(0, .inl x0), (1, .inl x1), (2, .inl x2), (3, .inl x3)] [] (c, σ, pr, τ) = some (.inl (some (.inl (x2 + x3))), (c, σ, pr, τ)) := id rfl
theorem T59_48 (F d f : Nat) (x0 x1 x2 x3 : Int32) (c : Nat → Nat) (σ : mSg) (τ : mLg) :
    pL F d 59 (f + 5) 48 [(0, .inl x0), (1, .inl x1), (2, .inl x2), (3, .inl x3)] [] (c, σ, pr, τ) = some (.inl (some (.inl (x2 - x3))), (c, σ, pr, τ)) := id rfl
theorem T59_67 (F d f : Nat) (x0 x1 x2 x3 : Int32) (c : Nat → Nat) (σ : mSg) (τ : mLg) :
    pL F d 59 (f + 3) 67 [(0, .inl x0), (1, .inl x1), (2, .inl x2), (3, .inl x3)] [] (c, σ, pr, τ) = some (.inl (some (.inl 1)), (c, σ, pr, τ)) := id rfl
theorem T59_71 (F d f : Nat) (x0 x1 x2 x3 : Int32) (c : Nat → Nat) (σ : mSg) (τ : mLg) :
    pL F d 59 (f + 2) 71 [(0, .inl x0), (1, .inl x1), (2, .inl x2), (3, .inl x3)] [] (c, σ, pr, τ) = some (.inl (some (.inl 0)), (c, σ, pr, τ)) := id rfl
theorem T59_78 (F d f : Nat) (x0 x1 x2 x3 x_0 : Int32) (c : Nat → Nat) (σ : mSg) (τ : mLg) :
    pL F d 59 (f + 1) 78 [(0, .inl x0), (1, .inl x1), (2, .inl x2), (3, .inl x3)] [.inl x_0] (c, σ, pr, τ) = (if x_0 = 0 then pL F d 59 f 85 [(0, .inl x0), (1, .inl x1), (2, .inl x2), (3, .inl x3)] [] (c, σ, pr, τ) else pL F d 59 f 81 [(0, .inl x0), (1, .inl x1), (2, .inl x2), (3, .inl x3)] [] (c, σ, pr, τ)) := id rfl
theorem T59_101 (F d f : Nat) (x0 x1 x2 x3 : Int32) (c : Nat → Nat) (σ : mSg) (τ : mLg) :
    pL F d 59 (f + 4) 101 [(0, .inl x0), (1, .inl x1), (2, .inl x2), (3, .inl x3)] [] (c, σ, pr, τ) = some (.inl (some (.inl ((Int32.toUInt32 x2 >>> (Int32.toUInt32 x3 &&& Int32.toUInt32 31)).toInt32))), (c, σ, pr, τ)) := id rfl
theorem T59_95 (F d f : Nat) (x0 x1 x2 x3 : Int32) (c : Nat → Nat) (σ : mSg) (τ : mLg) :
    pL F d 59 (f + 5) 95 [(0, .inl x0), (1, .inl x1), (2, .inl x2), (3, .inl x3)] [] (c, σ, pr, τ) = some (.inl (some (.inl (x2 >>> (x3 &&& 31)))), (c, σ, pr, τ)) := id rfl
theorem T59_85 (F d f : Nat) (x0 x1 x2 x3 : Int32) (c : Nat → Nat) (σ : mSg) (τ : mLg) :
    pL F d 59 (f + 2) 85 [(0, .inl x0), (1, .inl x1), (2, .inl x2), (3, .inl x3)] [] (c, σ, pr, τ) = some (.inl (some (.inl 0)), (c, σ, pr, τ)) := id rfl
theorem T59_81 (F d f : Nat) (x0 x1 x2 x3 : Int32) (c : Nat → Nat) (σ : mSg) (τ : mLg) :
    pL F d 59 (f + 3) 81 [(0, .inl x0), (1, .inl x1), (2, .inl x2), (3, .inl x3)] [] (c, σ, pr, τ) = some (.inl (some (.inl 1)), (c, σ, pr, τ)) := id rfl
/-! PartitionKernel$Machine.isBelow(II)Z -/
theorem T60 (F d : Nat) (x0 x1 : Int32) (c : Nat → Nat) (σ : mSg) (τ : mLg) :
    pX F (d + 1) 60 [.inl x0, .inl x1] (c, σ, pr, τ) = pL F d 60 F 0 [(0, .inl x0), (1, .inl x1)] [] (c, σ, pr, τ) := id rfl
theorem T60_0 (F d f : Nat) (x0 x1 : Int32) (c : Nat → Nat) (σ : mSg) (τ : mLg) :
    pL F d 60 (f + 7) 0 [(0, .inl x0), (1, .inl x1)] [] (c, σ, pr, τ) = (if (x0 ^^^ (-2147483648)) < (x1 ^^^ (-2147483648)) then pL F d 60 f 11 [(0, .inl x0), (1, .inl x1)] [] (c, σ, pr, τ) else pL F d 60 f 15 [(0, .inl x0), (1, .inl x1)] [] (c, σ, pr, τ)) := id rfl
theorem T60_11 (F d f : Nat) (x0 x1 : Int32) (c : Nat → Nat) (σ : mSg) (τ : mLg) :
    pL F d 60 (f + 3) 11 [(0, .inl x0), (1, .inl x1)] [] (c, σ, pr, τ) = some (.inl (some (.inl 1)), (c, σ, pr, τ)) := id rfl
theorem T60_15 (F d f : Nat) (x0 x1 : Int32) (c : Nat → Nat) (σ : mSg) (τ : mLg) :
    pL F d 60 (f + 2) 15 [(0, .inl x0), (1, .inl x1)] [] (c, σ, pr, τ) = some (.inl (some (.inl 0)), (c, σ, pr, τ)) := id rfl
/-! PartitionKernel$Machine.f3(I)I -/
theorem T61 (F d : Nat) (x0 : Int32) (c : Nat → Nat) (σ : mSg) (τ : mLg) :
    pX F (d + 1) 61 [.inl x0] (c, σ, pr, τ) = pL F d 61 F 0 [(0, .inl x0)] [] (c, σ, pr, τ) := id rfl
theorem T61_0 (F d f : Nat) (x0 : Int32) (c : Nat → Nat) (σ : mSg) (τ : mLg) :
    pL F d 61 (f + 6) 0 [(0, .inl x0)] [] (c, σ, pr, τ) = some (.inl (some (.inl ((x0 >>> (12 &&& 31)) &&& 7))), (c, σ, pr, τ)) := id rfl
/-! PartitionKernel$Machine.f7(I)I -/
theorem T62 (F d : Nat) (x0 : Int32) (c : Nat → Nat) (σ : mSg) (τ : mLg) :
    pX F (d + 1) 62 [.inl x0] (c, σ, pr, τ) = pL F d 62 F 0 [(0, .inl x0)] [] (c, σ, pr, τ) := id rfl
theorem T62_0 (F d f : Nat) (x0 : Int32) (c : Nat → Nat) (σ : mSg) (τ : mLg) :
    pL F d 62 (f + 4) 0 [(0, .inl x0)] [] (c, σ, pr, τ) = some (.inl (some (.inl ((Int32.toUInt32 x0 >>> (Int32.toUInt32 25 &&& Int32.toUInt32 31)).toInt32))), (c, σ, pr, τ)) := id rfl
/-! PartitionKernel$Machine.left(LPartitionKernel$Proc;I)I -/
theorem T63 (F d r0 : Nat) (x1 : Int32) (c : Nat → Nat) (σ : mSg) (τ : mLg) :
    pX F (d + 1) 63 [.inr (some (5, r0)), .inl x1] (c, σ, pr, τ) = pL F d 63 F 0 [(0, .inr (some (5, r0))), (1, .inl x1)] [] (c, σ, pr, τ) := id rfl
theorem T63_0 (F d f r0 : Nat) (x1 : Int32) (c : Nat → Nat) (σ : mSg) (τ : mLg) :
    pL F d 63 (f + 7) 0 [(0, .inr (some (5, r0))), (1, .inl x1)] [] (c, σ, pr, τ) = mq_kv (pX F d 43 [.inr (some (5, r0)), .inl ((x1 >>> (15 &&& 31)) &&& 31)] (c, σ, pr, τ)) (fun w M => pL F d 63 f 11 [(0, .inr (some (5, r0))), (1, .inl x1)] (mq_psh w []) M) := id rfl
theorem T63_11 (F d f r0 : Nat) (x1 x_0 : Int32) (c : Nat → Nat) (σ : mSg) (τ : mLg) :
    pL F d 63 (f + 1) 11 [(0, .inr (some (5, r0))), (1, .inl x1)] [.inl x_0] (c, σ, pr, τ) = some (.inl (some (.inl x_0)), (c, σ, pr, τ)) := id rfl
/-! PartitionKernel$Machine.right(LPartitionKernel$Proc;I)I -/
theorem T64 (F d r0 : Nat) (x1 : Int32) (c : Nat → Nat) (σ : mSg) (τ : mLg) :
    pX F (d + 1) 64 [.inr (some (5, r0)), .inl x1] (c, σ, pr, τ) = pL F d 64 F 0 [(0, .inr (some (5, r0))), (1, .inl x1)] [] (c, σ, pr, τ) := id rfl
theorem T64_0 (F d f r0 : Nat) (x1 : Int32) (c : Nat → Nat) (σ : mSg) (τ : mLg) :
    pL F d 64 (f + 7) 0 [(0, .inr (some (5, r0))), (1, .inl x1)] [] (c, σ, pr, τ) = mq_kv (pX F d 43 [.inr (some (5, r0)), .inl ((x1 >>> (20 &&& 31)) &&& 31)] (c, σ, pr, τ)) (fun w M => pL F d 64 f 11 [(0, .inr (some (5, r0))), (1, .inl x1)] (mq_psh w []) M) := id rfl
theorem T64_11 (F d f r0 : Nat) (x1 x_0 : Int32) (c : Nat → Nat) (σ : mSg) (τ : mLg) :
    pL F d 64 (f + 1) 11 [(0, .inr (some (5, r0))), (1, .inl x1)] [.inl x_0] (c, σ, pr, τ) = some (.inl (some (.inl x_0)), (c, σ, pr, τ)) := id rfl
/-! PartitionKernel$Machine.immediate(I)I -/
theorem T65 (F d : Nat) (x0 : Int32) (c : Nat → Nat) (σ : mSg) (τ : mLg) :
    pX F (d + 1) 65 [.inl x0] (c, σ, pr, τ) = pL F d 65 F 0 [(0, .inl x0)] [] (c, σ, pr, τ) := id rfl
theorem T65_0 (F d f : Nat) (x0 : Int32) (c : Nat → Nat) (σ : mSg) (τ : mLg) :
    pL F d 65 (f + 4) 0 [(0, .inl x0)] [] (c, σ, pr, τ) = some (.inl (some (.inl (x0 >>> (20 &&& 31)))), (c, σ, pr, τ)) := id rfl
/-! PartitionKernel$Machine.upper(I)I -/
theorem T66 (F d : Nat) (x0 : Int32) (c : Nat → Nat) (σ : mSg) (τ : mLg) :
    pX F (d + 1) 66 [.inl x0] (c, σ, pr, τ) = pL F d 66 F 0 [(0, .inl x0)] [] (c, σ, pr, τ) := id rfl
theorem T66_0 (F d f : Nat) (x0 : Int32) (c : Nat → Nat) (σ : mSg) (τ : mLg) :
    pL F d 66 (f + 4) 0 [(0, .inl x0)] [] (c, σ, pr, τ) = some (.inl (some (.inl (x0 &&& (-4096)))), (c, σ, pr, τ)) := id rfl
/-! PartitionKernel$Machine.storeOffset(I)I -/
theorem T67 (F d : Nat) (x0 : Int32) (c : Nat → Nat) (σ : mSg) (τ : mLg) :
    pX F (d + 1) 67 [.inl x0] (c, σ, pr, τ) = pL F d 67 F 0 [(0, .inl x0)] [] (c, σ, pr, τ) := id rfl
theorem T67_0 (F d f : Nat) (x0 : Int32) (c : Nat → Nat) (σ : mSg) (τ : mLg) :
    pL F d 67 (f + 12) 0 [(0, .inl x0)] [] (c, σ, pr, τ) = some (.inl (some (.inl (((x0 >>> (25 &&& 31)) <<< (5 &&& 31)) ||| ((x0 >>> (7 &&& 31)) &&& 31)))), (c, σ, pr, τ)) := id rfl
/-! PartitionKernel$Machine.jumpOffset(I)I -/
theorem T68 (F d : Nat) (x0 : Int32) (c : Nat → Nat) (σ : mSg) (τ : mLg) :
    pX F (d + 1) 68 [.inl x0] (c, σ, pr, τ) = pL F d 68 F 0 [(0, .inl x0)] [] (c, σ, pr, τ) := id rfl
theorem T68_0 (F d f : Nat) (x0 : Int32) (c : Nat → Nat) (σ : mSg) (τ : mLg) :
    pL F d 68 (f + 30) 0 [(0, .inl x0)] [] (c, σ, pr, τ) = some (.inl (some (.inl (((((x0 >>> (31 &&& 31)) <<< (20 &&& 31)) ||| (((x0 >>> (12 &&& 31)) &&& 255) <<< (12 &&& 31))) ||| (((x0 >>> (20 &&& 31)) &&& 1) <<< (11 &&& 31))) ||| (((x0 >>> (21 &&& 31)) &&& 1023) <<< (1 &&& 31))))), (c, σ, pr, τ)) := id rfl
/-! PartitionKernel$Machine.branchOffset(I)I -/
theorem T69 (F d : Nat) (x0 : Int32) (c : Nat → Nat) (σ : mSg) (τ : mLg) :
    pX F (d + 1) 69 [.inl x0] (c, σ, pr, τ) = pL F d 69 F 0 [(0, .inl x0)] [] (c, σ, pr, τ) := id rfl
theorem T69_0 (F d f : Nat) (x0 : Int32) (c : Nat → Nat) (σ : mSg) (τ : mLg) :
    pL F d 69 (f + 30) 0 [(0, .inl x0)] [] (c, σ, pr, τ) = some (.inl (some (.inl (((((x0 >>> (31 &&& 31)) <<< (12 &&& 31)) ||| (((x0 >>> (7 &&& 31)) &&& 1) <<< (11 &&& 31))) ||| (((x0 >>> (25 &&& 31)) &&& 63) <<< (5 &&& 31))) ||| (((x0 >>> (8 &&& 31)) &&& 15) <<< (1 &&& 31))))), (c, σ, pr, τ)) := id rfl
