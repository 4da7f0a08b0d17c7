/-! Rows of methods, by program. -/
-- PartitionKernel$Channel.<init>
set_option maxRecDepth 100000 in
theorem dc_1 : ∀ en ∈ cd_1, decode prog_2_method_1_code en.1 = .ok (en.2.1, en.2.2.1 - en.1) := by decide +kernel
set_option maxRecDepth 100000 in
set_option maxHeartbeats 4000000 in
theorem ok_1 (cA : Nat → ClassId) : mq_okm pg_cl (pg_tys cA) (pg_E cA) pg_Z pg_sw pg_mx pg_X 1 cd_1 := ⟨by decide +kernel, by decide +kernel, mq_ok_of dc_1 ⟨⟨rfl, trivial⟩,
  ⟨rfl, rfl, gw_245 _, gw_67 _, gw_obj _⟩,
  ⟨rfl, trivial⟩,
  ⟨rfl, (by decide : (Int8.ofInt 8).toInt32 = 8)⟩,
  ⟨rfl, (by decide : 11 ≠ 999), (by decide : 8 ≤ 65536), Or.inl ⟨rfl, rfl, gw_96 _⟩⟩,
  ⟨rfl, _, _, _, _, okc_0 cA _, (by decide : 0 < 8), gw_246 _, Or.inr ⟨rfl, rfl, rfl⟩, ⟨rfl, Or.inr ⟨_, rfl⟩⟩⟩,
  ⟨rfl, trivial⟩,
  ⟨rfl, (by decide : Int32.ofInt (-1) = (-1))⟩,
  ⟨rfl, _, _, _, _, okc_0 cA _, (by decide : 7 < 8), gw_256 _, Or.inl rfl, ⟨rfl, rfl⟩⟩,
  ⟨rfl, rfl⟩, trivial⟩⟩
-- PartitionKernel$Channel.open
set_option maxRecDepth 100000 in
theorem dc_2 : ∀ en ∈ cd_2, decode prog_2_method_2_code en.1 = .ok (en.2.1, en.2.2.1 - en.1) := by decide +kernel
set_option maxRecDepth 100000 in
set_option maxHeartbeats 4000000 in
theorem ok_2 (cA : Nat → ClassId) : mq_okm pg_cl (pg_tys cA) (pg_E cA) pg_Z pg_sw pg_mx pg_X 2 cd_2 := ⟨by decide +kernel, by decide +kernel, mq_ok_of dc_2 ⟨⟨rfl, trivial⟩,
  ⟨rfl, trivial⟩,
  ⟨rfl, _, _, _, _, okc_0 cA _, (by decide : 1 < 8), gw_247 _, Or.inl rfl, ⟨rfl, rfl⟩⟩,
  ⟨rfl, trivial⟩,
  ⟨rfl, trivial⟩,
  ⟨rfl, _, _, _, _, okc_0 cA _, (by decide : 2 < 8), gw_248 _, Or.inl rfl, ⟨rfl, rfl⟩⟩,
  ⟨rfl, trivial⟩,
  ⟨rfl, trivial⟩,
  ⟨rfl, _, _, _, _, okc_0 cA _, (by decide : 3 < 8), gw_250 _, Or.inl rfl, ⟨rfl, rfl⟩⟩,
  ⟨rfl, trivial⟩,
  ⟨rfl, trivial⟩,
  ⟨rfl, _, _, _, _, okc_0 cA _, (by decide : 4 < 8), gw_252 _, Or.inl rfl, ⟨rfl, rfl⟩⟩,
  ⟨rfl, rfl⟩, trivial⟩⟩
-- PartitionKernel$Channel.put
set_option maxRecDepth 100000 in
theorem dc_3 : ∀ en ∈ cd_3, decode prog_2_method_3_code en.1 = .ok (en.2.1, en.2.2.1 - en.1) := by decide +kernel
set_option maxRecDepth 100000 in
set_option maxHeartbeats 4000000 in
theorem ok_3 (cA : Nat → ClassId) : mq_okm pg_cl (pg_tys cA) (pg_E cA) pg_Z pg_sw pg_mx pg_X 3 cd_3 := ⟨by decide +kernel, by decide +kernel, mq_ok_of dc_3 ⟨⟨rfl, trivial⟩,
  ⟨rfl, _, _, _, _, okc_0 cA _, (by decide : 1 < 8), gw_247 _, trivial, ⟨rfl, rfl⟩⟩,
  ⟨rfl, (by decide : ((4 : Nat) : Int) + 22 = ((26 : Nat) : Int))⟩,
  ⟨rfl, trivial⟩,
  ⟨rfl, _, _, _, _, okc_0 cA _, (by decide : 0 < 8), gw_246 _, trivial, ⟨rfl, Or.inr ⟨_, rfl⟩⟩⟩,
  ⟨rfl, (by decide : Int32.ofInt 0 = 0)⟩,
  ⟨rfl, trivial⟩,
  ⟨rfl, trivial⟩,
  ⟨rfl, trivial⟩,
  ⟨rfl, (by decide : Int32.ofInt 1 = 1)⟩,
  ⟨rfl, _, _, _, _, okc_0 cA _, (by decide : 6 < 8), gw_254 _, Or.inl rfl, ⟨rfl, rfl⟩⟩,
  ⟨rfl, trivial⟩,
  ⟨rfl, trivial⟩,
  ⟨rfl, _, _, _, _, okc_0 cA _, (by decide : 7 < 8), gw_256 _, Or.inl rfl, ⟨rfl, rfl⟩⟩,
  ⟨rfl, (by decide : Int32.ofInt 0 = 0)⟩,
  ⟨rfl, Or.inr rfl⟩,
  ⟨rfl, trivial⟩,
  ⟨rfl, _, _, _, _, okc_0 cA _, (by decide : 6 < 8), gw_254 _, trivial, ⟨rfl, rfl⟩⟩,
  ⟨rfl, trivial⟩,
  ⟨rfl, _, _, _, _, okc_0 cA _, (by decide : 4 < 8), gw_252 _, trivial, ⟨rfl, rfl⟩⟩,
  ⟨rfl, (by decide : ((34 : Nat) : Int) + 5 = ((39 : Nat) : Int))⟩,
  ⟨rfl, (by decide : Int32.ofInt 2 = 2)⟩,
  ⟨rfl, Or.inr rfl⟩,
  ⟨rfl, trivial⟩,
  ⟨rfl, _, _, _, _, okc_0 cA _, (by decide : 0 < 8), gw_246 _, trivial, ⟨rfl, Or.inr ⟨_, rfl⟩⟩⟩,
  ⟨rfl, trivial⟩,
  ⟨rfl, trivial⟩,
  ⟨rfl, _, _, _, _, okc_0 cA _, (by decide : 6 < 8), gw_254 _, trivial, ⟨rfl, rfl⟩⟩,
  ⟨rfl, 1, _, rfl, ⟨okg 7 _ gc_7, gw_51 _, gw_384 _, ⟨by decide +kernel, by decide +kernel, by decide +kernel⟩, by decide +kernel⟩, gw_386 _, rfl, gw_4 _⟩,
  ⟨rfl, trivial⟩,
  ⟨rfl, trivial⟩,
  ⟨rfl, trivial⟩,
  ⟨rfl, trivial⟩,
  ⟨rfl, _, _, _, _, okc_0 cA _, (by decide : 6 < 8), gw_254 _, trivial, ⟨rfl, rfl⟩⟩,
  ⟨rfl, (by decide : Int32.ofInt 1 = 1)⟩,
  ⟨rfl, trivial⟩,
  ⟨rfl, _, _, _, _, okc_0 cA _, (by decide : 6 < 8), gw_254 _, Or.inl rfl, ⟨rfl, rfl⟩⟩,
  ⟨rfl, (by decide : Int32.ofInt 0 = 0)⟩,
  ⟨rfl, Or.inr rfl⟩, trivial⟩⟩
-- PartitionKernel$Channel.taken
set_option maxRecDepth 100000 in
theorem dc_4 : ∀ en ∈ cd_4, decode prog_2_method_4_code en.1 = .ok (en.2.1, en.2.2.1 - en.1) := by decide +kernel
set_option maxRecDepth 100000 in
set_option maxHeartbeats 4000000 in
theorem ok_4 (cA : Nat → ClassId) : mq_okm pg_cl (pg_tys cA) (pg_E cA) pg_Z pg_sw pg_mx pg_X 4 cd_4 := ⟨by decide +kernel, by decide +kernel, mq_ok_of dc_4 ⟨⟨rfl, trivial⟩,
  ⟨rfl, _, _, _, _, okc_0 cA _, (by decide : 1 < 8), gw_247 _, trivial, ⟨rfl, rfl⟩⟩,
  ⟨rfl, (by decide : ((4 : Nat) : Int) + 22 = ((26 : Nat) : Int))⟩,
  ⟨rfl, trivial⟩,
  ⟨rfl, trivial⟩,
  ⟨rfl, _, _, _, _, okc_0 cA _, (by decide : 7 < 8), gw_256 _, trivial, ⟨rfl, rfl⟩⟩,
  ⟨rfl, trivial⟩,
  ⟨rfl, trivial⟩,
  ⟨rfl, _, _, _, _, okc_0 cA _, (by decide : 4 < 8), gw_252 _, trivial, ⟨rfl, rfl⟩⟩,
  ⟨rfl, (by decide : ((17 : Nat) : Int) + 7 = ((24 : Nat) : Int))⟩,
  ⟨rfl, (by decide : Int32.ofInt 0 = 0)⟩,
  ⟨rfl, (by decide : ((21 : Nat) : Int) + 4 = ((25 : Nat) : Int))⟩,
  ⟨rfl, (by decide : Int32.ofInt 3 = 3)⟩,
  ⟨rfl, Or.inr rfl⟩,
  ⟨rfl, trivial⟩,
  ⟨rfl, trivial⟩,
  ⟨rfl, (by decide : Int32.ofInt 1 = 1)⟩,
  ⟨rfl, 1, _, rfl, ⟨okg 7 _ gc_7, gw_51 _, gw_384 _, ⟨by decide +kernel, by decide +kernel, by decide +kernel⟩, by decide +kernel⟩, gw_386 _, rfl, gw_4 _⟩,
  ⟨rfl, _, _, _, _, okc_0 cA _, (by decide : 5 < 8), gw_253 _, Or.inl rfl, ⟨rfl, rfl⟩⟩,
  ⟨rfl, trivial⟩,
  ⟨rfl, trivial⟩,
  ⟨rfl, _, _, _, _, okc_0 cA _, (by decide : 6 < 8), gw_254 _, trivial, ⟨rfl, rfl⟩⟩,
  ⟨rfl, (by decide : Int32.ofInt 1 = 1)⟩,
  ⟨rfl, trivial⟩,
  ⟨rfl, _, _, _, _, okc_0 cA _, (by decide : 6 < 8), gw_254 _, Or.inl rfl, ⟨rfl, rfl⟩⟩,
  ⟨rfl, (by decide : Int32.ofInt 0 = 0)⟩,
  ⟨rfl, Or.inr rfl⟩, trivial⟩⟩
-- PartitionKernel$Channel.wordAt
set_option maxRecDepth 100000 in
theorem dc_5 : ∀ en ∈ cd_5, decode prog_2_method_5_code en.1 = .ok (en.2.1, en.2.2.1 - en.1) := by decide +kernel
set_option maxRecDepth 100000 in
set_option maxHeartbeats 4000000 in
theorem ok_5 (cA : Nat → ClassId) : mq_okm pg_cl (pg_tys cA) (pg_E cA) pg_Z pg_sw pg_mx pg_X 5 cd_5 := ⟨by decide +kernel, by decide +kernel, mq_ok_of dc_5 ⟨⟨rfl, trivial⟩,
  ⟨rfl, (by decide : ((1 : Nat) : Int) + 24 = ((25 : Nat) : Int))⟩,
  ⟨rfl, trivial⟩,
  ⟨rfl, trivial⟩,
  ⟨rfl, _, _, _, _, okc_0 cA _, (by decide : 6 < 8), gw_254 _, trivial, ⟨rfl, rfl⟩⟩,
  ⟨rfl, (by decide : ((9 : Nat) : Int) + 16 = ((25 : Nat) : Int))⟩,
  ⟨rfl, trivial⟩,
  ⟨rfl, _, _, _, _, okc_0 cA _, (by decide : 0 < 8), gw_246 _, trivial, ⟨rfl, Or.inr ⟨_, rfl⟩⟩⟩,
  ⟨rfl, trivial⟩,
  ⟨rfl, trivial⟩,
  ⟨rfl, 1, _, rfl, ⟨okg 7 _ gc_7, gw_51 _, gw_384 _, ⟨by decide +kernel, by decide +kernel, by decide +kernel⟩, by decide +kernel⟩, gw_386 _, rfl, gw_4 _⟩,
  ⟨rfl, trivial⟩,
  ⟨rfl, (by decide : ((22 : Nat) : Int) + 4 = ((26 : Nat) : Int))⟩,
  ⟨rfl, (by decide : Int32.ofInt 0 = 0)⟩,
  ⟨rfl, Or.inr rfl⟩, trivial⟩⟩
-- PartitionKernel$Channel.tell
set_option maxRecDepth 100000 in
theorem dc_6 : ∀ en ∈ cd_6, decode prog_2_method_6_code en.1 = .ok (en.2.1, en.2.2.1 - en.1) := by decide +kernel
set_option maxRecDepth 100000 in
set_option maxHeartbeats 4000000 in
theorem ok_6 (cA : Nat → ClassId) : mq_okm pg_cl (pg_tys cA) (pg_E cA) pg_Z pg_sw pg_mx pg_X 6 cd_6 := ⟨by decide +kernel, by decide +kernel, mq_ok_of dc_6 ⟨⟨rfl, trivial⟩,
  ⟨by decide, by decide, by decide, by decide, by decide, by decide, trivial⟩,
  ⟨rfl, trivial⟩,
  ⟨rfl, _, _, _, _, okc_0 cA _, (by decide : 6 < 8), gw_254 _, trivial, ⟨rfl, rfl⟩⟩,
  ⟨rfl, Or.inr rfl⟩,
  ⟨rfl, trivial⟩,
  ⟨rfl, _, _, _, _, okc_0 cA _, (by decide : 7 < 8), gw_256 _, trivial, ⟨rfl, rfl⟩⟩,
  ⟨rfl, Or.inr rfl⟩,
  ⟨rfl, (by decide : Int32.ofInt (-1) = (-1))⟩,
  ⟨rfl, Or.inr rfl⟩, trivial⟩⟩
-- PartitionKernel$Channel.placeOf
set_option maxRecDepth 100000 in
theorem dc_7 : ∀ en ∈ cd_7, decode prog_2_method_7_code en.1 = .ok (en.2.1, en.2.2.1 - en.1) := by decide +kernel
set_option maxRecDepth 100000 in
set_option maxHeartbeats 4000000 in
theorem ok_7 (cA : Nat → ClassId) : mq_okm pg_cl (pg_tys cA) (pg_E cA) pg_Z pg_sw pg_mx pg_X 7 cd_7 := ⟨by decide +kernel, by decide +kernel, mq_ok_of dc_7 ⟨⟨rfl, trivial⟩,
  ⟨rfl, _, _, _, _, okc_0 cA _, (by decide : 5 < 8), gw_253 _, trivial, ⟨rfl, rfl⟩⟩,
  ⟨rfl, trivial⟩,
  ⟨rfl, trivial⟩,
  ⟨rfl, (by decide : (Int8.ofInt 7).toInt32 = 7)⟩,
  ⟨rfl, trivial⟩,
  ⟨rfl, Or.inr rfl⟩, trivial⟩⟩
-- PartitionKernel$ErrorLog.<init>
set_option maxRecDepth 100000 in
theorem dc_8 : ∀ en ∈ cd_8, decode prog_3_method_1_code en.1 = .ok (en.2.1, en.2.2.1 - en.1) := by decide +kernel
set_option maxRecDepth 100000 in
set_option maxHeartbeats 4000000 in
theorem ok_8 (cA : Nat → ClassId) : mq_okm pg_cl (pg_tys cA) (pg_E cA) pg_Z pg_sw pg_mx pg_X 8 cd_8 := ⟨by decide +kernel, by decide +kernel, mq_ok_of dc_8 ⟨⟨rfl, trivial⟩,
  ⟨rfl, rfl, gw_102 _, gw_67 _, gw_obj _⟩,
  ⟨rfl, trivial⟩,
  ⟨rfl, (by decide : (Int8.ofInt 64).toInt32 = 64)⟩,
  ⟨rfl, (by decide : 14 ≠ 999), (by decide : 64 ≤ 65536), Or.inl ⟨rfl, rfl, gw_96 _⟩⟩,
  ⟨rfl, _, _, _, _, okc_1 cA _, (by decide : 0 < 7), gw_103 _, Or.inr ⟨rfl, rfl, rfl⟩, ⟨rfl, Or.inr ⟨_, rfl⟩⟩⟩,
  ⟨rfl, trivial⟩,
  ⟨rfl, (by decide : (Int8.ofInt 64).toInt32 = 64)⟩,
  ⟨rfl, (by decide : 14 ≠ 999), (by decide : 64 ≤ 65536), Or.inl ⟨rfl, rfl, gw_96 _⟩⟩,
  ⟨rfl, _, _, _, _, okc_1 cA _, (by decide : 1 < 7), gw_104 _, Or.inr ⟨rfl, rfl, rfl⟩, ⟨rfl, Or.inr ⟨_, rfl⟩⟩⟩,
  ⟨rfl, trivial⟩,
  ⟨rfl, (by decide : (Int8.ofInt 64).toInt32 = 64)⟩,
  ⟨rfl, (by decide : 14 ≠ 999), (by decide : 64 ≤ 65536), Or.inl ⟨rfl, rfl, gw_96 _⟩⟩,
  ⟨rfl, _, _, _, _, okc_1 cA _, (by decide : 2 < 7), gw_105 _, Or.inr ⟨rfl, rfl, rfl⟩, ⟨rfl, Or.inr ⟨_, rfl⟩⟩⟩,
  ⟨rfl, trivial⟩,
  ⟨rfl, (by decide : (Int8.ofInt 64).toInt32 = 64)⟩,
  ⟨rfl, (by decide : 14 ≠ 999), (by decide : 64 ≤ 65536), Or.inl ⟨rfl, rfl, gw_96 _⟩⟩,
  ⟨rfl, _, _, _, _, okc_1 cA _, (by decide : 3 < 7), gw_106 _, Or.inr ⟨rfl, rfl, rfl⟩, ⟨rfl, Or.inr ⟨_, rfl⟩⟩⟩,
  ⟨rfl, rfl⟩, trivial⟩⟩
-- PartitionKernel$ErrorLog.note
set_option maxRecDepth 100000 in
theorem dc_9 : ∀ en ∈ cd_9, decode prog_3_method_2_code en.1 = .ok (en.2.1, en.2.2.1 - en.1) := by decide +kernel
set_option maxRecDepth 100000 in
set_option maxHeartbeats 4000000 in
theorem ok_9 (cA : Nat → ClassId) : mq_okm pg_cl (pg_tys cA) (pg_E cA) pg_Z pg_sw pg_mx pg_X 9 cd_9 := ⟨by decide +kernel, by decide +kernel, mq_ok_of dc_9 ⟨⟨rfl, trivial⟩,
  ⟨rfl, _, _, _, _, okc_1 cA _, (by decide : 0 < 7), gw_103 _, trivial, ⟨rfl, Or.inr ⟨_, rfl⟩⟩⟩,
  ⟨rfl, trivial⟩,
  ⟨rfl, _, _, _, _, okc_1 cA _, (by decide : 6 < 7), gw_110 _, trivial, ⟨rfl, rfl⟩⟩,
  ⟨rfl, trivial⟩,
  ⟨rfl, trivial⟩,
  ⟨rfl, trivial⟩,
  ⟨rfl, _, _, _, _, okc_1 cA _, (by decide : 1 < 7), gw_104 _, trivial, ⟨rfl, Or.inr ⟨_, rfl⟩⟩⟩,
  ⟨rfl, trivial⟩,
  ⟨rfl, _, _, _, _, okc_1 cA _, (by decide : 6 < 7), gw_110 _, trivial, ⟨rfl, rfl⟩⟩,
  ⟨rfl, trivial⟩,
  ⟨rfl, trivial⟩,
  ⟨rfl, trivial⟩,
  ⟨rfl, _, _, _, _, okc_1 cA _, (by decide : 2 < 7), gw_105 _, trivial, ⟨rfl, Or.inr ⟨_, rfl⟩⟩⟩,
  ⟨rfl, trivial⟩,
  ⟨rfl, _, _, _, _, okc_1 cA _, (by decide : 6 < 7), gw_110 _, trivial, ⟨rfl, rfl⟩⟩,
  ⟨rfl, trivial⟩,
  ⟨rfl, trivial⟩,
  ⟨rfl, trivial⟩,
  ⟨rfl, _, _, _, _, okc_1 cA _, (by decide : 3 < 7), gw_106 _, trivial, ⟨rfl, Or.inr ⟨_, rfl⟩⟩⟩,
  ⟨rfl, trivial⟩,
  ⟨rfl, _, _, _, _, okc_1 cA _, (by decide : 6 < 7), gw_110 _, trivial, ⟨rfl, rfl⟩⟩,
  ⟨rfl, trivial⟩,
  ⟨rfl, trivial⟩,
  ⟨rfl, trivial⟩,
  ⟨rfl, trivial⟩,
  ⟨rfl, _, _, _, _, okc_1 cA _, (by decide : 6 < 7), gw_110 _, trivial, ⟨rfl, rfl⟩⟩,
  ⟨rfl, (by decide : Int32.ofInt 1 = 1)⟩,
  ⟨rfl, trivial⟩,
  ⟨rfl, (by decide : (Int8.ofInt 64).toInt32 = 64)⟩,
  ⟨rfl, (by decide : ((50 : Nat) : Int) + 12 = ((62 : Nat) : Int))⟩,
  ⟨rfl, trivial⟩,
  ⟨rfl, _, _, _, _, okc_1 cA _, (by decide : 6 < 7), gw_110 _, trivial, ⟨rfl, rfl⟩⟩,
  ⟨rfl, (by decide : Int32.ofInt 1 = 1)⟩,
  ⟨rfl, trivial⟩,
  ⟨rfl, (by decide : ((59 : Nat) : Int) + 4 = ((63 : Nat) : Int))⟩,
  ⟨rfl, (by decide : Int32.ofInt 0 = 0)⟩,
  ⟨rfl, _, _, _, _, okc_1 cA _, (by decide : 6 < 7), gw_110 _, Or.inl rfl, ⟨rfl, rfl⟩⟩,
  ⟨rfl, trivial⟩,
  ⟨rfl, trivial⟩,
  ⟨rfl, _, _, _, _, okc_1 cA _, (by decide : 5 < 7), gw_109 _, trivial, ⟨rfl, rfl⟩⟩,
  ⟨rfl, (by decide : Int32.ofInt 1 = 1)⟩,
  ⟨rfl, trivial⟩,
  ⟨rfl, (by decide : (Int8.ofInt 64).toInt32 = 64)⟩,
  ⟨rfl, gw_639 _, gw_640 _, gw_59 _, gw_min _⟩,
  ⟨rfl, _, _, _, _, okc_1 cA _, (by decide : 5 < 7), gw_109 _, Or.inl rfl, ⟨rfl, rfl⟩⟩,
  ⟨rfl, trivial⟩,
  ⟨rfl, trivial⟩,
  ⟨rfl, _, _, _, _, okc_1 cA _, (by decide : 4 < 7), gw_107 _, trivial, ⟨rfl, rfl⟩⟩,
  ⟨rfl, (by decide : Int32.ofInt 1 = 1)⟩,
  ⟨rfl, trivial⟩,
  ⟨rfl, _, _, _, _, okc_1 cA _, (by decide : 4 < 7), gw_107 _, Or.inl rfl, ⟨rfl, rfl⟩⟩,
  ⟨rfl, rfl⟩, trivial⟩⟩
-- PartitionKernel$ErrorLog.tell
set_option maxRecDepth 100000 in
theorem dc_10 : ∀ en ∈ cd_10, decode prog_3_method_3_code en.1 = .ok (en.2.1, en.2.2.1 - en.1) := by decide +kernel
set_option maxRecDepth 100000 in
set_option maxHeartbeats 4000000 in
theorem ok_10 (cA : Nat → ClassId) : mq_okm pg_cl (pg_tys cA) (pg_E cA) pg_Z pg_sw pg_mx pg_X 10 cd_10 := ⟨by decide +kernel, by decide +kernel, mq_ok_of dc_10 ⟨⟨rfl, trivial⟩,
  ⟨rfl, (by decide : ((1 : Nat) : Int) + 11 = ((12 : Nat) : Int))⟩,
  ⟨rfl, trivial⟩,
  ⟨rfl, trivial⟩,
  ⟨rfl, _, _, _, _, okc_1 cA _, (by decide : 5 < 7), gw_109 _, trivial, ⟨rfl, rfl⟩⟩,
  ⟨rfl, (by decide : ((9 : Nat) : Int) + 5 = ((14 : Nat) : Int))⟩,
  ⟨rfl, (by decide : Int32.ofInt (-1) = (-1))⟩,
  ⟨rfl, Or.inr rfl⟩,
  ⟨rfl, trivial⟩,
  ⟨rfl, _, _, _, _, okc_1 cA _, (by decide : 6 < 7), gw_110 _, trivial, ⟨rfl, rfl⟩⟩,
  ⟨rfl, (by decide : Int32.ofInt 1 = 1)⟩,
  ⟨rfl, trivial⟩,
  ⟨rfl, trivial⟩,
  ⟨rfl, trivial⟩,
  ⟨rfl, (by decide : 3 < 4)⟩,
  ⟨rfl, trivial⟩,
  ⟨rfl, (by decide : ((24 : Nat) : Int) + 6 = ((30 : Nat) : Int))⟩,
  ⟨rfl, (by decide : 3 < 4), (by decide : Int32.ofInt 64 = 64)⟩,
  ⟨rfl, trivial⟩,
  ⟨by decide, by decide, by decide, by decide, by decide, by decide, by decide, by decide, by decide, by decide, trivial⟩,
  ⟨rfl, trivial⟩,
  ⟨rfl, _, _, _, _, okc_1 cA _, (by decide : 0 < 7), gw_103 _, trivial, ⟨rfl, Or.inr ⟨_, rfl⟩⟩⟩,
  ⟨rfl, trivial⟩,
  ⟨rfl, trivial⟩,
  ⟨rfl, Or.inr rfl⟩,
  ⟨rfl, trivial⟩,
  ⟨rfl, _, _, _, _, okc_1 cA _, (by decide : 1 < 7), gw_104 _, trivial, ⟨rfl, Or.inr ⟨_, rfl⟩⟩⟩,
  ⟨rfl, trivial⟩,
  ⟨rfl, trivial⟩,
  ⟨rfl, Or.inr rfl⟩,
  ⟨rfl, trivial⟩,
  ⟨rfl, _, _, _, _, okc_1 cA _, (by decide : 2 < 7), gw_105 _, trivial, ⟨rfl, Or.inr ⟨_, rfl⟩⟩⟩,
  ⟨rfl, trivial⟩,
  ⟨rfl, trivial⟩,
  ⟨rfl, Or.inr rfl⟩,
  ⟨rfl, trivial⟩,
  ⟨rfl, _, _, _, _, okc_1 cA _, (by decide : 3 < 7), gw_106 _, trivial, ⟨rfl, Or.inr ⟨_, rfl⟩⟩⟩,
  ⟨rfl, trivial⟩,
  ⟨rfl, trivial⟩,
  ⟨rfl, Or.inr rfl⟩,
  ⟨rfl, (by decide : Int32.ofInt (-1) = (-1))⟩,
  ⟨rfl, Or.inr rfl⟩, trivial⟩⟩
-- PartitionKernel$Frame.<init>
set_option maxRecDepth 100000 in
theorem dc_11 : ∀ en ∈ cd_11, decode prog_4_method_1_code en.1 = .ok (en.2.1, en.2.2.1 - en.1) := by decide +kernel
set_option maxRecDepth 100000 in
set_option maxHeartbeats 4000000 in
theorem ok_11 (cA : Nat → ClassId) : mq_okm pg_cl (pg_tys cA) (pg_E cA) pg_Z pg_sw pg_mx pg_X 11 cd_11 := ⟨by decide +kernel, by decide +kernel, mq_ok_of dc_11 ⟨⟨rfl, trivial⟩,
  ⟨rfl, rfl, gw_78 _, gw_67 _, gw_obj _⟩,
  ⟨rfl, trivial⟩,
  ⟨rfl, (by decide : (Int8.ofInt 8).toInt32 = 8)⟩,
  ⟨rfl, (by decide : 11 ≠ 999), (by decide : 8 ≤ 65536), Or.inl ⟨rfl, rfl, gw_96 _⟩⟩,
  ⟨rfl, _, _, _, _, okc_2 cA _, (by decide : 0 < 5), gw_79 _, Or.inr ⟨rfl, rfl, rfl⟩, ⟨rfl, Or.inr ⟨_, rfl⟩⟩⟩,
  ⟨rfl, trivial⟩,
  ⟨rfl, (by decide : (Int8.ofInt 8).toInt32 = 8)⟩,
  ⟨rfl, (by decide : 11 ≠ 999), (by decide : 8 ≤ 65536), Or.inl ⟨rfl, rfl, gw_96 _⟩⟩,
  ⟨rfl, _, _, _, _, okc_2 cA _, (by decide : 1 < 5), gw_80 _, Or.inr ⟨rfl, rfl, rfl⟩, ⟨rfl, Or.inr ⟨_, rfl⟩⟩⟩,
  ⟨rfl, rfl⟩, trivial⟩⟩
-- PartitionKernel$Frame.add
set_option maxRecDepth 100000 in
theorem dc_12 : ∀ en ∈ cd_12, decode prog_4_method_2_code en.1 = .ok (en.2.1, en.2.2.1 - en.1) := by decide +kernel
set_option maxRecDepth 100000 in
set_option maxHeartbeats 4000000 in
theorem ok_12 (cA : Nat → ClassId) : mq_okm pg_cl (pg_tys cA) (pg_E cA) pg_Z pg_sw pg_mx pg_X 12 cd_12 := ⟨by decide +kernel, by decide +kernel, mq_ok_of dc_12 ⟨⟨rfl, trivial⟩,
  ⟨rfl, _, _, _, _, okc_2 cA _, (by decide : 2 < 5), gw_81 _, trivial, ⟨rfl, rfl⟩⟩,
  ⟨rfl, (by decide : (Int8.ofInt 8).toInt32 = 8)⟩,
  ⟨rfl, (by decide : ((6 : Nat) : Int) + 5 = ((11 : Nat) : Int))⟩,
  ⟨rfl, (by decide : Int32.ofInt 0 = 0)⟩,
  ⟨rfl, Or.inl ⟨rfl, rfl⟩⟩,
  ⟨rfl, trivial⟩,
  ⟨rfl, _, _, _, _, okc_2 cA _, (by decide : 0 < 5), gw_79 _, trivial, ⟨rfl, Or.inr ⟨_, rfl⟩⟩⟩,
  ⟨rfl, trivial⟩,
  ⟨rfl, _, _, _, _, okc_2 cA _, (by decide : 2 < 5), gw_81 _, trivial, ⟨rfl, rfl⟩⟩,
  ⟨rfl, trivial⟩,
  ⟨rfl, trivial⟩,
  ⟨rfl, trivial⟩,
  ⟨rfl, _, _, _, _, okc_2 cA _, (by decide : 1 < 5), gw_80 _, trivial, ⟨rfl, Or.inr ⟨_, rfl⟩⟩⟩,
  ⟨rfl, trivial⟩,
  ⟨rfl, _, _, _, _, okc_2 cA _, (by decide : 2 < 5), gw_81 _, trivial, ⟨rfl, rfl⟩⟩,
  ⟨rfl, trivial⟩,
  ⟨rfl, trivial⟩,
  ⟨rfl, trivial⟩,
  ⟨rfl, trivial⟩,
  ⟨rfl, _, _, _, _, okc_2 cA _, (by decide : 2 < 5), gw_81 _, trivial, ⟨rfl, rfl⟩⟩,
  ⟨rfl, (by decide : Int32.ofInt 1 = 1)⟩,
  ⟨rfl, trivial⟩,
  ⟨rfl, _, _, _, _, okc_2 cA _, (by decide : 2 < 5), gw_81 _, Or.inl rfl, ⟨rfl, rfl⟩⟩,
  ⟨rfl, (by decide : Int32.ofInt 1 = 1)⟩,
  ⟨rfl, Or.inl ⟨rfl, rfl⟩⟩, trivial⟩⟩
-- PartitionKernel$Frame.owner
set_option maxRecDepth 100000 in
theorem dc_13 : ∀ en ∈ cd_13, decode prog_4_method_3_code en.1 = .ok (en.2.1, en.2.2.1 - en.1) := by decide +kernel
set_option maxRecDepth 100000 in
set_option maxHeartbeats 4000000 in
theorem ok_13 (cA : Nat → ClassId) : mq_okm pg_cl (pg_tys cA) (pg_E cA) pg_Z pg_sw pg_mx pg_X 13 cd_13 := ⟨by decide +kernel, by decide +kernel, mq_ok_of dc_13 ⟨⟨rfl, trivial⟩,
  ⟨rfl, _, _, _, _, okc_2 cA _, (by decide : 3 < 5), gw_83 _, trivial, ⟨rfl, rfl⟩⟩,
  ⟨rfl, trivial⟩,
  ⟨rfl, _, _, _, _, okc_2 cA _, (by decide : 2 < 5), gw_81 _, trivial, ⟨rfl, rfl⟩⟩,
  ⟨rfl, (by decide : ((8 : Nat) : Int) + 15 = ((23 : Nat) : Int))⟩,
  ⟨rfl, trivial⟩,
  ⟨rfl, _, _, _, _, okc_2 cA _, (by decide : 0 < 5), gw_79 _, trivial, ⟨rfl, Or.inr ⟨_, rfl⟩⟩⟩,
  ⟨rfl, trivial⟩,
  ⟨rfl, _, _, _, _, okc_2 cA _, (by decide : 3 < 5), gw_83 _, trivial, ⟨rfl, rfl⟩⟩,
  ⟨rfl, trivial⟩,
  ⟨rfl, (by decide : ((20 : Nat) : Int) + 4 = ((24 : Nat) : Int))⟩,
  ⟨rfl, (by decide : Int32.ofInt (-1) = (-1))⟩,
  ⟨rfl, Or.inr rfl⟩, trivial⟩⟩
-- PartitionKernel$Frame.advance
set_option maxRecDepth 100000 in
theorem dc_14 : ∀ en ∈ cd_14, decode prog_4_method_4_code en.1 = .ok (en.2.1, en.2.2.1 - en.1) := by decide +kernel
set_option maxRecDepth 100000 in
set_option maxHeartbeats 4000000 in
theorem ok_14 (cA : Nat → ClassId) : mq_okm pg_cl (pg_tys cA) (pg_E cA) pg_Z pg_sw pg_mx pg_X 14 cd_14 := ⟨by decide +kernel, by decide +kernel, mq_ok_of dc_14 ⟨⟨rfl, trivial⟩,
  ⟨rfl, _, _, _, _, okc_2 cA _, (by decide : 3 < 5), gw_83 _, trivial, ⟨rfl, rfl⟩⟩,
  ⟨rfl, trivial⟩,
  ⟨rfl, _, _, _, _, okc_2 cA _, (by decide : 2 < 5), gw_81 _, trivial, ⟨rfl, rfl⟩⟩,
  ⟨rfl, (by decide : ((8 : Nat) : Int) + 4 = ((12 : Nat) : Int))⟩,
  ⟨rfl, rfl⟩,
  ⟨rfl, trivial⟩,
  ⟨rfl, trivial⟩,
  ⟨rfl, _, _, _, _, okc_2 cA _, (by decide : 4 < 5), gw_84 _, trivial, ⟨rfl, rfl⟩⟩,
  ⟨rfl, (by decide : Int32.ofInt 1 = 1)⟩,
  ⟨rfl, trivial⟩,
  ⟨rfl, _, _, _, _, okc_2 cA _, (by decide : 4 < 5), gw_84 _, Or.inl rfl, ⟨rfl, rfl⟩⟩,
  ⟨rfl, trivial⟩,
  ⟨rfl, _, _, _, _, okc_2 cA _, (by decide : 4 < 5), gw_84 _, trivial, ⟨rfl, rfl⟩⟩,
  ⟨rfl, trivial⟩,
  ⟨rfl, _, _, _, _, okc_2 cA _, (by decide : 1 < 5), gw_80 _, trivial, ⟨rfl, Or.inr ⟨_, rfl⟩⟩⟩,
  ⟨rfl, trivial⟩,
  ⟨rfl, _, _, _, _, okc_2 cA _, (by decide : 3 < 5), gw_83 _, trivial, ⟨rfl, rfl⟩⟩,
  ⟨rfl, trivial⟩,
  ⟨rfl, (by decide : ((35 : Nat) : Int) + 35 = ((70 : Nat) : Int))⟩,
  ⟨rfl, trivial⟩,
  ⟨rfl, (by decide : Int32.ofInt 0 = 0)⟩,
  ⟨rfl, _, _, _, _, okc_2 cA _, (by decide : 4 < 5), gw_84 _, Or.inl rfl, ⟨rfl, rfl⟩⟩,
  ⟨rfl, trivial⟩,
  ⟨rfl, trivial⟩,
  ⟨rfl, _, _, _, _, okc_2 cA _, (by decide : 3 < 5), gw_83 _, trivial, ⟨rfl, rfl⟩⟩,
  ⟨rfl, (by decide : Int32.ofInt 1 = 1)⟩,
  ⟨rfl, trivial⟩,
  ⟨rfl, trivial⟩,
  ⟨rfl, _, _, _, _, okc_2 cA _, (by decide : 2 < 5), gw_81 _, trivial, ⟨rfl, rfl⟩⟩,
  ⟨rfl, (by decide : ((54 : Nat) : Int) + 12 = ((66 : Nat) : Int))⟩,
  ⟨rfl, trivial⟩,
  ⟨rfl, _, _, _, _, okc_2 cA _, (by decide : 3 < 5), gw_83 _, trivial, ⟨rfl, rfl⟩⟩,
  ⟨rfl, (by decide : Int32.ofInt 1 = 1)⟩,
  ⟨rfl, trivial⟩,
  ⟨rfl, (by decide : ((63 : Nat) : Int) + 4 = ((67 : Nat) : Int))⟩,
  ⟨rfl, (by decide : Int32.ofInt 0 = 0)⟩,
  ⟨rfl, _, _, _, _, okc_2 cA _, (by decide : 3 < 5), gw_83 _, Or.inl rfl, ⟨rfl, rfl⟩⟩,
  ⟨rfl, rfl⟩, trivial⟩⟩
-- PartitionKernel$Memory.<init>
set_option maxRecDepth 100000 in
theorem dc_15 : ∀ en ∈ cd_15, decode prog_6_method_1_code en.1 = .ok (en.2.1, en.2.2.1 - en.1) := by decide +kernel
set_option maxRecDepth 100000 in
set_option maxHeartbeats 4000000 in
theorem ok_15 (cA : Nat → ClassId) : mq_okm pg_cl (pg_tys cA) (pg_E cA) pg_Z pg_sw pg_mx pg_X 15 cd_15 := ⟨by decide +kernel, by decide +kernel, mq_ok_of dc_15 ⟨⟨rfl, trivial⟩,
  ⟨rfl, rfl, gw_136 _, gw_67 _, gw_obj _⟩,
  ⟨rfl, trivial⟩,
  ⟨rfl, (by decide : (Int16.ofInt 256).toInt32 = 256)⟩,
  ⟨rfl, (by decide : 15 ≠ 999), (by decide : 256 ≤ 65536), Or.inl ⟨rfl, rfl, gw_96 _⟩⟩,
  ⟨rfl, _, _, _, _, okc_3 cA _, (by decide : 0 < 1), gw_137 _, Or.inr ⟨rfl, rfl, rfl⟩, ⟨rfl, Or.inr ⟨_, rfl⟩⟩⟩,
  ⟨rfl, rfl⟩, trivial⟩⟩
-- PartitionKernel$Memory.holds
set_option maxRecDepth 100000 in
theorem dc_16 : ∀ en ∈ cd_16, decode prog_6_method_2_code en.1 = .ok (en.2.1, en.2.2.1 - en.1) := by decide +kernel
set_option maxRecDepth 100000 in
set_option maxHeartbeats 4000000 in
theorem ok_16 (cA : Nat → ClassId) : mq_okm pg_cl (pg_tys cA) (pg_E cA) pg_Z pg_sw pg_mx pg_X 16 cd_16 := ⟨by decide +kernel, by decide +kernel, mq_ok_of dc_16 ⟨⟨rfl, trivial⟩,
  ⟨rfl, (by decide : ((1 : Nat) : Int) + 22 = ((23 : Nat) : Int))⟩,
  ⟨rfl, trivial⟩,
  ⟨rfl, (by decide : (Int16.ofInt 1024).toInt32 = 1024)⟩,
  ⟨rfl, (by decide : ((8 : Nat) : Int) + 15 = ((23 : Nat) : Int))⟩,
  ⟨rfl, trivial⟩,
  ⟨rfl, trivial⟩,
  ⟨rfl, (by decide : Int32.ofInt 1 = 1)⟩,
  ⟨rfl, trivial⟩,
  ⟨rfl, trivial⟩,
  ⟨rfl, (by decide : ((16 : Nat) : Int) + 7 = ((23 : Nat) : Int))⟩,
  ⟨rfl, (by decide : Int32.ofInt 1 = 1)⟩,
  ⟨rfl, (by decide : ((20 : Nat) : Int) + 4 = ((24 : Nat) : Int))⟩,
  ⟨rfl, (by decide : Int32.ofInt 0 = 0)⟩,
  ⟨rfl, Or.inl ⟨rfl, rfl⟩⟩, trivial⟩⟩
-- PartitionKernel$Memory.readWord
set_option maxRecDepth 100000 in
theorem dc_17 : ∀ en ∈ cd_17, decode prog_6_method_3_code en.1 = .ok (en.2.1, en.2.2.1 - en.1) := by decide +kernel
set_option maxRecDepth 100000 in
set_option maxHeartbeats 4000000 in
theorem ok_17 (cA : Nat → ClassId) : mq_okm pg_cl (pg_tys cA) (pg_E cA) pg_Z pg_sw pg_mx pg_X 17 cd_17 := ⟨by decide +kernel, by decide +kernel, mq_ok_of dc_17 ⟨⟨rfl, trivial⟩,
  ⟨rfl, (by decide : Int32.ofInt 4 = 4)⟩,
  ⟨rfl, ⟨okg 16 _ gc_16, gw_49 _, Or.inl (gw_314 _), ⟨by decide +kernel, by decide +kernel, by decide +kernel⟩, by decide +kernel⟩, gw_315 _⟩,
  ⟨rfl, (by decide : ((5 : Nat) : Int) + 14 = ((19 : Nat) : Int))⟩,
  ⟨rfl, trivial⟩,
  ⟨rfl, _, _, _, _, okc_3 cA _, (by decide : 0 < 1), gw_137 _, trivial, ⟨rfl, Or.inr ⟨_, rfl⟩⟩⟩,
  ⟨rfl, trivial⟩,
  ⟨rfl, (by decide : Int32.ofInt 2 = 2)⟩,
  ⟨rfl, trivial⟩,
  ⟨rfl, trivial⟩,
  ⟨rfl, (by decide : ((16 : Nat) : Int) + 4 = ((20 : Nat) : Int))⟩,
  ⟨rfl, (by decide : Int32.ofInt 0 = 0)⟩,
  ⟨rfl, Or.inr rfl⟩, trivial⟩⟩
-- PartitionKernel$Memory.writeWord
set_option maxRecDepth 100000 in
theorem dc_18 : ∀ en ∈ cd_18, decode prog_6_method_4_code en.1 = .ok (en.2.1, en.2.2.1 - en.1) := by decide +kernel
set_option maxRecDepth 100000 in
set_option maxHeartbeats 4000000 in
theorem ok_18 (cA : Nat → ClassId) : mq_okm pg_cl (pg_tys cA) (pg_E cA) pg_Z pg_sw pg_mx pg_X 18 cd_18 := ⟨by decide +kernel, by decide +kernel, mq_ok_of dc_18 ⟨⟨rfl, trivial⟩,
  ⟨rfl, (by decide : Int32.ofInt 4 = 4)⟩,
  ⟨rfl, ⟨okg 16 _ gc_16, gw_49 _, Or.inl (gw_314 _), ⟨by decide +kernel, by decide +kernel, by decide +kernel⟩, by decide +kernel⟩, gw_315 _⟩,
  ⟨rfl, (by decide : ((5 : Nat) : Int) + 12 = ((17 : Nat) : Int))⟩,
  ⟨rfl, trivial⟩,
  ⟨rfl, _, _, _, _, okc_3 cA _, (by decide : 0 < 1), gw_137 _, trivial, ⟨rfl, Or.inr ⟨_, rfl⟩⟩⟩,
  ⟨rfl, trivial⟩,
  ⟨rfl, (by decide : Int32.ofInt 2 = 2)⟩,
  ⟨rfl, trivial⟩,
  ⟨rfl, trivial⟩,
  ⟨rfl, trivial⟩,
  ⟨rfl, rfl⟩, trivial⟩⟩
-- PartitionKernel$Memory.readFrom
set_option maxRecDepth 100000 in
theorem dc_19 : ∀ en ∈ cd_19, decode prog_6_method_5_code en.1 = .ok (en.2.1, en.2.2.1 - en.1) := by decide +kernel
set_option maxRecDepth 100000 in
set_option maxHeartbeats 4000000 in
theorem ok_19 (cA : Nat → ClassId) : mq_okm pg_cl (pg_tys cA) (pg_E cA) pg_Z pg_sw pg_mx pg_X 19 cd_19 := ⟨by decide +kernel, by decide +kernel, mq_ok_of dc_19 ⟨⟨rfl, trivial⟩,
  ⟨rfl, trivial⟩,
  ⟨rfl, (by decide : (Int8.ofInt (-4)).toInt32 = (-4))⟩,
  ⟨rfl, trivial⟩,
  ⟨rfl, 1, _, rfl, ⟨okg 17 _ gc_17, gw_49 _, gw_703 _, ⟨by decide +kernel, by decide +kernel, by decide +kernel⟩, by decide +kernel⟩, gw_311 _, rfl, gw_312 _⟩,
  ⟨rfl, trivial⟩,
  ⟨rfl, ⟨okg 21 _ gc_21, gw_49 _, Or.inl (gw_704 _), ⟨by decide +kernel, by decide +kernel, by decide +kernel⟩, by decide +kernel⟩, gw_705 _⟩,
  ⟨rfl, trivial⟩,
  ⟨rfl, Or.inr rfl⟩, trivial⟩⟩
-- PartitionKernel$Memory.write
set_option maxRecDepth 100000 in
theorem dc_20 : ∀ en ∈ cd_20, decode prog_6_method_6_code en.1 = .ok (en.2.1, en.2.2.1 - en.1) := by decide +kernel
set_option maxRecDepth 100000 in
set_option maxHeartbeats 4000000 in
theorem ok_20 (cA : Nat → ClassId) : mq_okm pg_cl (pg_tys cA) (pg_E cA) pg_Z pg_sw pg_mx pg_X 20 cd_20 := ⟨by decide +kernel, by decide +kernel, mq_ok_of dc_20 ⟨⟨rfl, trivial⟩,
  ⟨rfl, (by decide : Int32.ofInt 4 = 4)⟩,
  ⟨rfl, (by decide : ((2 : Nat) : Int) + 7 = ((9 : Nat) : Int))⟩,
  ⟨rfl, (by decide : Int32.ofInt (-1) = (-1))⟩,
  ⟨rfl, (by decide : ((6 : Nat) : Int) + 11 = ((17 : Nat) : Int))⟩,
  ⟨rfl, (by decide : Int32.ofInt 1 = 1)⟩,
  ⟨rfl, trivial⟩,
  ⟨rfl, (by decide : (Int8.ofInt 8).toInt32 = 8)⟩,
  ⟨rfl, trivial⟩,
  ⟨rfl, trivial⟩,
  ⟨rfl, (by decide : Int32.ofInt 1 = 1)⟩,
  ⟨rfl, trivial⟩,
  ⟨rfl, (by decide : 4 < 7)⟩,
  ⟨rfl, trivial⟩,
  ⟨rfl, trivial⟩,
  ⟨rfl, ⟨okg 21 _ gc_21, gw_49 _, Or.inl (gw_704 _), ⟨by decide +kernel, by decide +kernel, by decide +kernel⟩, by decide +kernel⟩, gw_705 _⟩,
  ⟨rfl, trivial⟩,
  ⟨rfl, (by decide : 5 < 7)⟩,
  ⟨rfl, trivial⟩,
  ⟨rfl, trivial⟩,
  ⟨rfl, (by decide : (Int8.ofInt (-4)).toInt32 = (-4))⟩,
  ⟨rfl, trivial⟩,
  ⟨rfl, 1, _, rfl, ⟨okg 17 _ gc_17, gw_49 _, gw_703 _, ⟨by decide +kernel, by decide +kernel, by decide +kernel⟩, by decide +kernel⟩, gw_311 _, rfl, gw_312 _⟩,
  ⟨rfl, trivial⟩,
  ⟨rfl, (by decide : Int32.ofInt (-1) = (-1))⟩,
  ⟨rfl, trivial⟩,
  ⟨rfl, trivial⟩,
  ⟨rfl, (by decide : 6 < 7)⟩,
  ⟨rfl, trivial⟩,
  ⟨rfl, trivial⟩,
  ⟨rfl, (by decide : (Int8.ofInt (-4)).toInt32 = (-4))⟩,
  ⟨rfl, trivial⟩,
  ⟨rfl, trivial⟩,
  ⟨rfl, trivial⟩,
  ⟨rfl, trivial⟩,
  ⟨rfl, ⟨okg 21 _ gc_21, gw_49 _, Or.inl (gw_704 _), ⟨by decide +kernel, by decide +kernel, by decide +kernel⟩, by decide +kernel⟩, gw_705 _⟩,
  ⟨rfl, trivial⟩,
  ⟨rfl, trivial⟩,
  ⟨rfl, trivial⟩,
  ⟨rfl, trivial⟩,
  ⟨rfl, 2, _, rfl, ⟨okg 18 _ gc_18, gw_49 _, gw_721 _, ⟨by decide +kernel, by decide +kernel, by decide +kernel⟩, by decide +kernel⟩, gw_571 _, rfl, gw_572 _⟩,
  ⟨rfl, rfl⟩, trivial⟩⟩
