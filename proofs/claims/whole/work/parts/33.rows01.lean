/-! Rows of methods, by program. -/
-- PartitionKernel$Memory.shiftOf
set_option maxRecDepth 100000 in
theorem dc_21 : ∀ en ∈ cd_21, decode prog_6_method_7_code en.1 = .ok (en.2.1, en.2.2.1 - en.1) := by decide +kernel
set_option maxRecDepth 100000 in
set_option maxHeartbeats 4000000 in
theorem ok_21 (cA : Nat → ClassId) : mq_okm pg_cl (pg_tys cA) (pg_E cA) pg_Z pg_sw pg_mx pg_X 21 cd_21 := ⟨by decide +kernel, by decide +kernel, mq_ok_of dc_21 ⟨⟨rfl, trivial⟩,
  ⟨rfl, (by decide : Int32.ofInt 3 = 3)⟩,
  ⟨rfl, trivial⟩,
  ⟨rfl, (by decide : (Int8.ofInt 8).toInt32 = 8)⟩,
  ⟨rfl, trivial⟩,
  ⟨rfl, Or.inr rfl⟩, trivial⟩⟩
-- PartitionKernel$Partition.<init>
set_option maxRecDepth 100000 in
theorem dc_22 : ∀ en ∈ cd_22, decode prog_7_method_1_code en.1 = .ok (en.2.1, en.2.2.1 - en.1) := by decide +kernel
set_option maxRecDepth 100000 in
set_option maxHeartbeats 4000000 in
theorem ok_22 (cA : Nat → ClassId) : mq_okm pg_cl (pg_tys cA) (pg_E cA) pg_Z pg_sw pg_mx pg_X 22 cd_22 := ⟨by decide +kernel, by decide +kernel, mq_ok_of dc_22 ⟨⟨rfl, trivial⟩,
  ⟨rfl, rfl, gw_130 _, gw_67 _, gw_obj _⟩,
  ⟨rfl, trivial⟩,
  ⟨rfl, fun _ => ⟨(by decide : 3 ≠ 999), _, _, _, _, okc_3 cA _, gw_131 _, gw_132 _, gw_49 _⟩⟩,
  ⟨rfl, trivial⟩,
  ⟨rfl, 0, rfl, ⟨okg 15 _ gc_15, gw_49 _, Or.inr ⟨_, pX_133⟩, ⟨by decide +kernel, by decide +kernel, by decide +kernel⟩, by decide +kernel⟩, rfl, gw_134 _, rfl⟩,
  ⟨rfl, _, _, _, _, okc_4 cA _, (by decide : 1 < 9), gw_208 _, Or.inr ⟨rfl, rfl, rfl⟩, ⟨rfl, Or.inl ⟨_, rfl⟩⟩⟩,
  ⟨rfl, trivial⟩,
  ⟨rfl, (by decide : (Int8.ofInt 8).toInt32 = 8)⟩,
  ⟨rfl, (by decide : 22 ≠ 999), (by decide : 8 ≤ 65536), rfl, _, 6, rfl, gw_141 _, pX_ao6⟩,
  ⟨rfl, _, _, _, _, okc_4 cA _, (by decide : 2 < 9), gw_210 _, Or.inr ⟨rfl, rfl, rfl⟩, ⟨rfl, Or.inr ⟨_, rfl⟩⟩⟩,
  ⟨rfl, trivial⟩,
  ⟨rfl, (by decide : Int32.ofInt 4 = 4)⟩,
  ⟨rfl, (by decide : 10 ≠ 999), (by decide : 4 ≤ 65536), Or.inl ⟨rfl, rfl, gw_96 _⟩⟩,
  ⟨rfl, _, _, _, _, okc_4 cA _, (by decide : 3 < 9), gw_212 _, Or.inr ⟨rfl, rfl, rfl⟩, ⟨rfl, Or.inr ⟨_, rfl⟩⟩⟩,
  ⟨rfl, trivial⟩,
  ⟨rfl, (by decide : Int32.ofInt 4 = 4)⟩,
  ⟨rfl, (by decide : 10 ≠ 999), (by decide : 4 ≤ 65536), Or.inl ⟨rfl, rfl, gw_96 _⟩⟩,
  ⟨rfl, _, _, _, _, okc_4 cA _, (by decide : 4 < 9), gw_213 _, Or.inr ⟨rfl, rfl, rfl⟩, ⟨rfl, Or.inr ⟨_, rfl⟩⟩⟩,
  ⟨rfl, trivial⟩,
  ⟨rfl, trivial⟩,
  ⟨rfl, _, _, _, _, okc_4 cA _, (by decide : 0 < 9), gw_206 _, Or.inr ⟨rfl, rfl, rfl⟩, ⟨rfl, rfl⟩⟩,
  ⟨rfl, (by decide : Int32.ofInt 0 = 0)⟩,
  ⟨rfl, (by decide : 2 < 3)⟩,
  ⟨rfl, trivial⟩,
  ⟨rfl, (by decide : (Int8.ofInt 8).toInt32 = 8)⟩,
  ⟨rfl, (by decide : ((48 : Nat) : Int) + 23 = ((71 : Nat) : Int))⟩,
  ⟨rfl, trivial⟩,
  ⟨rfl, _, _, _, _, okc_4 cA _, (by decide : 2 < 9), gw_210 _, trivial, ⟨rfl, Or.inr ⟨_, rfl⟩⟩⟩,
  ⟨rfl, trivial⟩,
  ⟨rfl, fun _ => ⟨(by decide : 5 ≠ 999), _, _, _, _, okc_5 cA _, gw_141 _, gw_143 _, gw_50 _⟩⟩,
  ⟨rfl, trivial⟩,
  ⟨rfl, trivial⟩,
  ⟨rfl, 1, rfl, ⟨okg 42 _ gc_42, gw_50 _, Or.inl (gw_144 _), ⟨by decide +kernel, by decide +kernel, by decide +kernel⟩, by decide +kernel⟩, rfl, gw_145 _, rfl⟩,
  ⟨rfl, trivial⟩,
  ⟨rfl, (by decide : 2 < 3), (by decide : Int32.ofInt 1 = 1)⟩,
  ⟨rfl, (by decide : ((68 : Nat) : Int) + (-23) = ((45 : Nat) : Int))⟩,
  ⟨rfl, rfl⟩, trivial⟩⟩
-- PartitionKernel$Partition.add
set_option maxRecDepth 100000 in
theorem dc_23 : ∀ en ∈ cd_23, decode prog_7_method_2_code en.1 = .ok (en.2.1, en.2.2.1 - en.1) := by decide +kernel
set_option maxRecDepth 100000 in
set_option maxHeartbeats 4000000 in
theorem ok_23 (cA : Nat → ClassId) : mq_okm pg_cl (pg_tys cA) (pg_E cA) pg_Z pg_sw pg_mx pg_X 23 cd_23 := ⟨by decide +kernel, by decide +kernel, mq_ok_of dc_23 ⟨⟨rfl, trivial⟩,
  ⟨rfl, _, _, _, _, okc_4 cA _, (by decide : 5 < 9), gw_215 _, trivial, ⟨rfl, rfl⟩⟩,
  ⟨rfl, (by decide : (Int8.ofInt 8).toInt32 = 8)⟩,
  ⟨rfl, (by decide : ((6 : Nat) : Int) + 5 = ((11 : Nat) : Int))⟩,
  ⟨rfl, (by decide : Int32.ofInt (-1) = (-1))⟩,
  ⟨rfl, Or.inr rfl⟩,
  ⟨rfl, trivial⟩,
  ⟨rfl, _, _, _, _, okc_4 cA _, (by decide : 2 < 9), gw_210 _, trivial, ⟨rfl, Or.inr ⟨_, rfl⟩⟩⟩,
  ⟨rfl, trivial⟩,
  ⟨rfl, _, _, _, _, okc_4 cA _, (by decide : 5 < 9), gw_215 _, trivial, ⟨rfl, rfl⟩⟩,
  ⟨rfl, trivial⟩,
  ⟨rfl, (by decide : 5 < 6)⟩,
  ⟨rfl, trivial⟩,
  ⟨rfl, trivial⟩,
  ⟨rfl, _, _, _, _, okc_5 cA _, (by decide : 2 < 14), gw_152 _, Or.inl rfl, ⟨rfl, rfl⟩⟩,
  ⟨rfl, trivial⟩,
  ⟨rfl, trivial⟩,
  ⟨rfl, _, _, _, _, okc_5 cA _, (by decide : 3 < 14), gw_154 _, Or.inl rfl, ⟨rfl, rfl⟩⟩,
  ⟨rfl, trivial⟩,
  ⟨rfl, trivial⟩,
  ⟨rfl, _, _, _, _, okc_5 cA _, (by decide : 4 < 14), gw_156 _, Or.inl rfl, ⟨rfl, rfl⟩⟩,
  ⟨rfl, trivial⟩,
  ⟨rfl, trivial⟩,
  ⟨rfl, _, _, _, _, okc_5 cA _, (by decide : 5 < 14), gw_157 _, Or.inl rfl, ⟨rfl, rfl⟩⟩,
  ⟨rfl, trivial⟩,
  ⟨rfl, trivial⟩,
  ⟨rfl, _, _, _, _, okc_4 cA _, (by decide : 5 < 9), gw_215 _, trivial, ⟨rfl, rfl⟩⟩,
  ⟨rfl, (by decide : Int32.ofInt 1 = 1)⟩,
  ⟨rfl, trivial⟩,
  ⟨rfl, _, _, _, _, okc_4 cA _, (by decide : 5 < 9), gw_215 _, Or.inl rfl, ⟨rfl, rfl⟩⟩,
  ⟨rfl, trivial⟩,
  ⟨rfl, _, _, _, _, okc_5 cA _, (by decide : 0 < 14), gw_149 _, trivial, ⟨rfl, rfl⟩⟩,
  ⟨rfl, Or.inr rfl⟩, trivial⟩⟩
-- PartitionKernel$Partition.find
set_option maxRecDepth 100000 in
theorem dc_24 : ∀ en ∈ cd_24, decode prog_7_method_3_code en.1 = .ok (en.2.1, en.2.2.1 - en.1) := by decide +kernel
set_option maxRecDepth 100000 in
set_option maxHeartbeats 4000000 in
theorem ok_24 (cA : Nat → ClassId) : mq_okm pg_cl (pg_tys cA) (pg_E cA) pg_Z pg_sw pg_mx pg_X 24 cd_24 := ⟨by decide +kernel, by decide +kernel, mq_ok_of dc_24 ⟨⟨rfl, trivial⟩,
  ⟨rfl, (by decide : ((1 : Nat) : Int) + 20 = ((21 : Nat) : Int))⟩,
  ⟨rfl, trivial⟩,
  ⟨rfl, trivial⟩,
  ⟨rfl, _, _, _, _, okc_4 cA _, (by decide : 5 < 9), gw_215 _, trivial, ⟨rfl, rfl⟩⟩,
  ⟨rfl, (by decide : ((9 : Nat) : Int) + 12 = ((21 : Nat) : Int))⟩,
  ⟨rfl, trivial⟩,
  ⟨rfl, _, _, _, _, okc_4 cA _, (by decide : 2 < 9), gw_210 _, trivial, ⟨rfl, Or.inr ⟨_, rfl⟩⟩⟩,
  ⟨rfl, trivial⟩,
  ⟨rfl, trivial⟩,
  ⟨rfl, (by decide : ((18 : Nat) : Int) + 4 = ((22 : Nat) : Int))⟩,
  ⟨rfl, trivial⟩,
  ⟨rfl, _, rfl, Or.inl ⟨_, rfl⟩⟩, trivial⟩⟩
-- PartitionKernel$Partition.actionFor
set_option maxRecDepth 100000 in
theorem dc_25 : ∀ en ∈ cd_25, decode prog_7_method_4_code en.1 = .ok (en.2.1, en.2.2.1 - en.1) := by decide +kernel
set_option maxRecDepth 100000 in
set_option maxHeartbeats 4000000 in
theorem ok_25 (cA : Nat → ClassId) : mq_okm pg_cl (pg_tys cA) (pg_E cA) pg_Z pg_sw pg_mx pg_X 25 cd_25 := ⟨by decide +kernel, by decide +kernel, mq_ok_of dc_25 ⟨⟨rfl, trivial⟩,
  ⟨rfl, (by decide : ((1 : Nat) : Int) + 17 = ((18 : Nat) : Int))⟩,
  ⟨rfl, trivial⟩,
  ⟨rfl, (by decide : Int32.ofInt 4 = 4)⟩,
  ⟨rfl, (by decide : ((6 : Nat) : Int) + 12 = ((18 : Nat) : Int))⟩,
  ⟨rfl, trivial⟩,
  ⟨rfl, _, _, _, _, okc_4 cA _, (by decide : 4 < 9), gw_213 _, trivial, ⟨rfl, Or.inr ⟨_, rfl⟩⟩⟩,
  ⟨rfl, trivial⟩,
  ⟨rfl, trivial⟩,
  ⟨rfl, (by decide : ((15 : Nat) : Int) + 4 = ((19 : Nat) : Int))⟩,
  ⟨rfl, (by decide : Int32.ofInt 0 = 0)⟩,
  ⟨rfl, Or.inr rfl⟩, trivial⟩⟩
-- PartitionKernel$Partition.tell
set_option maxRecDepth 100000 in
theorem dc_26 : ∀ en ∈ cd_26, decode prog_7_method_5_code en.1 = .ok (en.2.1, en.2.2.1 - en.1) := by decide +kernel
set_option maxRecDepth 100000 in
set_option maxHeartbeats 4000000 in
theorem ok_26 (cA : Nat → ClassId) : mq_okm pg_cl (pg_tys cA) (pg_E cA) pg_Z pg_sw pg_mx pg_X 26 cd_26 := ⟨by decide +kernel, by decide +kernel, mq_ok_of dc_26 ⟨⟨rfl, trivial⟩,
  ⟨by decide, by decide, by decide, by decide, by decide, by decide, by decide, by decide, by decide, by decide, trivial⟩,
  ⟨rfl, trivial⟩,
  ⟨rfl, _, _, _, _, okc_4 cA _, (by decide : 8 < 9), gw_220 _, trivial, ⟨rfl, rfl⟩⟩,
  ⟨rfl, (by decide : ((36 : Nat) : Int) + 7 = ((43 : Nat) : Int))⟩,
  ⟨rfl, (by decide : Int32.ofInt 1 = 1)⟩,
  ⟨rfl, (by decide : ((40 : Nat) : Int) + 4 = ((44 : Nat) : Int))⟩,
  ⟨rfl, (by decide : Int32.ofInt 0 = 0)⟩,
  ⟨rfl, Or.inr rfl⟩,
  ⟨rfl, trivial⟩,
  ⟨rfl, _, _, _, _, okc_4 cA _, (by decide : 5 < 9), gw_215 _, trivial, ⟨rfl, rfl⟩⟩,
  ⟨rfl, Or.inr rfl⟩,
  ⟨rfl, trivial⟩,
  ⟨rfl, 0, _, rfl, ⟨okg 38 _ gc_38, gw_48 _, gw_349 _, ⟨by decide +kernel, by decide +kernel, by decide +kernel⟩, by decide +kernel⟩, gw_351 _, rfl, gw_2 _⟩,
  ⟨rfl, Or.inr rfl⟩,
  ⟨rfl, trivial⟩,
  ⟨rfl, _, _, _, _, okc_4 cA _, (by decide : 7 < 9), gw_218 _, trivial, ⟨rfl, rfl⟩⟩,
  ⟨rfl, Or.inr rfl⟩,
  ⟨rfl, trivial⟩,
  ⟨rfl, (by decide : Int32.ofInt 4 = 4)⟩,
  ⟨rfl, trivial⟩,
  ⟨rfl, ⟨okg 39 _ gc_39, gw_48 _, Or.inl (gw_361 _), ⟨by decide +kernel, by decide +kernel, by decide +kernel⟩, by decide +kernel⟩, gw_362 _⟩,
  ⟨rfl, (by decide : ((66 : Nat) : Int) + 14 = ((80 : Nat) : Int))⟩,
  ⟨rfl, trivial⟩,
  ⟨rfl, _, _, _, _, okc_4 cA _, (by decide : 3 < 9), gw_212 _, trivial, ⟨rfl, Or.inr ⟨_, rfl⟩⟩⟩,
  ⟨rfl, trivial⟩,
  ⟨rfl, (by decide : Int32.ofInt 4 = 4)⟩,
  ⟨rfl, trivial⟩,
  ⟨rfl, trivial⟩,
  ⟨rfl, (by decide : ((77 : Nat) : Int) + 4 = ((81 : Nat) : Int))⟩,
  ⟨rfl, (by decide : Int32.ofInt (-1) = (-1))⟩,
  ⟨rfl, Or.inr rfl⟩, trivial⟩⟩
-- PartitionKernel$Partition.start
set_option maxRecDepth 100000 in
theorem dc_27 : ∀ en ∈ cd_27, decode prog_7_method_6_code en.1 = .ok (en.2.1, en.2.2.1 - en.1) := by decide +kernel
set_option maxRecDepth 100000 in
set_option maxHeartbeats 4000000 in
theorem ok_27 (cA : Nat → ClassId) : mq_okm pg_cl (pg_tys cA) (pg_E cA) pg_Z pg_sw pg_mx pg_X 27 cd_27 := ⟨by decide +kernel, by decide +kernel, mq_ok_of dc_27 ⟨⟨rfl, trivial⟩,
  ⟨rfl, 0, _, rfl, ⟨okg 45 _ gc_45, gw_50 _, gw_590 _, ⟨by decide +kernel, by decide +kernel, by decide +kernel⟩, by decide +kernel⟩, gw_591 _, rfl, gw_592 _⟩,
  ⟨rfl, trivial⟩,
  ⟨rfl, trivial⟩,
  ⟨rfl, 1, _, rfl, ⟨okg 46 _ gc_46, gw_50 _, gw_594 _, ⟨by decide +kernel, by decide +kernel, by decide +kernel⟩, by decide +kernel⟩, gw_595 _, rfl, gw_596 _⟩,
  ⟨rfl, trivial⟩,
  ⟨rfl, trivial⟩,
  ⟨rfl, (by decide : Int32.ofInt 1 = 1)⟩,
  ⟨rfl, (by decide : Int32.ofInt (-1) = (-1))⟩,
  ⟨rfl, (by decide : Int32.ofInt (-1) = (-1))⟩,
  ⟨rfl, 4, _, rfl, ⟨okg 41 _ gc_41, gw_48 _, gw_598 _, ⟨by decide +kernel, by decide +kernel, by decide +kernel⟩, by decide +kernel⟩, gw_600 _, rfl, gw_6 _⟩,
  ⟨rfl, rfl⟩, trivial⟩⟩
-- PartitionKernel$Partition.startAll
set_option maxRecDepth 100000 in
theorem dc_28 : ∀ en ∈ cd_28, decode prog_7_method_7_code en.1 = .ok (en.2.1, en.2.2.1 - en.1) := by decide +kernel
set_option maxRecDepth 100000 in
set_option maxHeartbeats 4000000 in
theorem ok_28 (cA : Nat → ClassId) : mq_okm pg_cl (pg_tys cA) (pg_E cA) pg_Z pg_sw pg_mx pg_X 28 cd_28 := ⟨by decide +kernel, by decide +kernel, mq_ok_of dc_28 ⟨⟨rfl, (by decide : Int32.ofInt 0 = 0)⟩,
  ⟨rfl, (by decide : 2 < 3)⟩,
  ⟨rfl, trivial⟩,
  ⟨rfl, trivial⟩,
  ⟨rfl, _, _, _, _, okc_4 cA _, (by decide : 5 < 9), gw_215 _, trivial, ⟨rfl, rfl⟩⟩,
  ⟨rfl, (by decide : ((7 : Nat) : Int) + 20 = ((27 : Nat) : Int))⟩,
  ⟨rfl, trivial⟩,
  ⟨rfl, trivial⟩,
  ⟨rfl, _, _, _, _, okc_4 cA _, (by decide : 2 < 9), gw_210 _, trivial, ⟨rfl, Or.inr ⟨_, rfl⟩⟩⟩,
  ⟨rfl, trivial⟩,
  ⟨rfl, trivial⟩,
  ⟨rfl, trivial⟩,
  ⟨rfl, 2, _, rfl, ⟨okg 27 _ gc_27, gw_48 _, gw_586 _, ⟨by decide +kernel, by decide +kernel, by decide +kernel⟩, by decide +kernel⟩, gw_587 _, rfl, gw_588 _⟩,
  ⟨rfl, (by decide : 2 < 3), (by decide : Int32.ofInt 1 = 1)⟩,
  ⟨rfl, (by decide : ((24 : Nat) : Int) + (-22) = ((2 : Nat) : Int))⟩,
  ⟨rfl, (by decide : Int32.ofInt 0 = 0)⟩,
  ⟨rfl, (by decide : 2 < 3)⟩,
  ⟨rfl, trivial⟩,
  ⟨rfl, (by decide : Int32.ofInt 4 = 4)⟩,
  ⟨rfl, (by decide : ((31 : Nat) : Int) + 16 = ((47 : Nat) : Int))⟩,
  ⟨rfl, trivial⟩,
  ⟨rfl, _, _, _, _, okc_4 cA _, (by decide : 3 < 9), gw_212 _, trivial, ⟨rfl, Or.inr ⟨_, rfl⟩⟩⟩,
  ⟨rfl, trivial⟩,
  ⟨rfl, (by decide : Int32.ofInt 0 = 0)⟩,
  ⟨rfl, trivial⟩,
  ⟨rfl, (by decide : 2 < 3), (by decide : Int32.ofInt 1 = 1)⟩,
  ⟨rfl, (by decide : ((44 : Nat) : Int) + (-15) = ((29 : Nat) : Int))⟩,
  ⟨rfl, rfl⟩, trivial⟩⟩
-- PartitionKernel$Partition.rest
set_option maxRecDepth 100000 in
theorem dc_29 : ∀ en ∈ cd_29, decode prog_7_method_8_code en.1 = .ok (en.2.1, en.2.2.1 - en.1) := by decide +kernel
set_option maxRecDepth 100000 in
set_option maxHeartbeats 4000000 in
theorem ok_29 (cA : Nat → ClassId) : mq_okm pg_cl (pg_tys cA) (pg_E cA) pg_Z pg_sw pg_mx pg_X 29 cd_29 := ⟨by decide +kernel, by decide +kernel, mq_ok_of dc_29 ⟨⟨rfl, trivial⟩,
  ⟨rfl, (by decide : Int32.ofInt (-1) = (-1))⟩,
  ⟨rfl, _, _, _, _, okc_5 cA _, (by decide : 8 < 14), gw_165 _, Or.inl rfl, ⟨rfl, rfl⟩⟩,
  ⟨rfl, trivial⟩,
  ⟨rfl, trivial⟩,
  ⟨rfl, (by decide : Int32.ofInt 0 = 0)⟩,
  ⟨rfl, (by decide : Int32.ofInt (-1) = (-1))⟩,
  ⟨rfl, (by decide : Int32.ofInt (-1) = (-1))⟩,
  ⟨rfl, 4, _, rfl, ⟨okg 41 _ gc_41, gw_48 _, gw_598 _, ⟨by decide +kernel, by decide +kernel, by decide +kernel⟩, by decide +kernel⟩, gw_600 _, rfl, gw_6 _⟩,
  ⟨rfl, rfl⟩, trivial⟩⟩
-- PartitionKernel$Partition.wake
set_option maxRecDepth 100000 in
theorem dc_30 : ∀ en ∈ cd_30, decode prog_7_method_9_code en.1 = .ok (en.2.1, en.2.2.1 - en.1) := by decide +kernel
set_option maxRecDepth 100000 in
set_option maxHeartbeats 4000000 in
theorem ok_30 (cA : Nat → ClassId) : mq_okm pg_cl (pg_tys cA) (pg_E cA) pg_Z pg_sw pg_mx pg_X 30 cd_30 := ⟨by decide +kernel, by decide +kernel, mq_ok_of dc_30 ⟨⟨rfl, (by decide : Int32.ofInt 0 = 0)⟩,
  ⟨rfl, (by decide : 2 < 4)⟩,
  ⟨rfl, trivial⟩,
  ⟨rfl, trivial⟩,
  ⟨rfl, _, _, _, _, okc_4 cA _, (by decide : 5 < 9), gw_215 _, trivial, ⟨rfl, rfl⟩⟩,
  ⟨rfl, (by decide : ((7 : Nat) : Int) + 28 = ((35 : Nat) : Int))⟩,
  ⟨rfl, trivial⟩,
  ⟨rfl, trivial⟩,
  ⟨rfl, 1, _, rfl, ⟨okg 40 _ gc_40, gw_48 _, gw_619 _, ⟨by decide +kernel, by decide +kernel, by decide +kernel⟩, by decide +kernel⟩, gw_621 _, rfl, gw_8 _⟩,
  ⟨rfl, (by decide : 3 < 4)⟩,
  ⟨rfl, trivial⟩,
  ⟨rfl, (by decide : ((17 : Nat) : Int) + 4 = ((21 : Nat) : Int))⟩,
  ⟨rfl, rfl⟩,
  ⟨rfl, trivial⟩,
  ⟨rfl, trivial⟩,
  ⟨rfl, (by decide : Int32.ofInt 1 = 1)⟩,
  ⟨rfl, (by decide : Int32.ofInt (-1) = (-1))⟩,
  ⟨rfl, (by decide : Int32.ofInt (-1) = (-1))⟩,
  ⟨rfl, 4, _, rfl, ⟨okg 41 _ gc_41, gw_48 _, gw_598 _, ⟨by decide +kernel, by decide +kernel, by decide +kernel⟩, by decide +kernel⟩, gw_600 _, rfl, gw_6 _⟩,
  ⟨rfl, (by decide : 2 < 4), (by decide : Int32.ofInt 1 = 1)⟩,
  ⟨rfl, (by decide : ((32 : Nat) : Int) + (-30) = ((2 : Nat) : Int))⟩,
  ⟨rfl, rfl⟩, trivial⟩⟩
-- PartitionKernel$Partition.first
set_option maxRecDepth 100000 in
theorem dc_31 : ∀ en ∈ cd_31, decode prog_7_method_10_code en.1 = .ok (en.2.1, en.2.2.1 - en.1) := by decide +kernel
set_option maxRecDepth 100000 in
set_option maxHeartbeats 4000000 in
theorem ok_31 (cA : Nat → ClassId) : mq_okm pg_cl (pg_tys cA) (pg_E cA) pg_Z pg_sw pg_mx pg_X 31 cd_31 := ⟨by decide +kernel, by decide +kernel, mq_ok_of dc_31 ⟨⟨rfl, trivial⟩,
  ⟨rfl, (by decide : 3 < 6)⟩,
  ⟨rfl, (by decide : Int32.ofInt 0 = 0)⟩,
  ⟨rfl, (by decide : 4 < 6)⟩,
  ⟨rfl, trivial⟩,
  ⟨rfl, trivial⟩,
  ⟨rfl, _, _, _, _, okc_4 cA _, (by decide : 5 < 9), gw_215 _, trivial, ⟨rfl, rfl⟩⟩,
  ⟨rfl, (by decide : ((11 : Nat) : Int) + 48 = ((59 : Nat) : Int))⟩,
  ⟨rfl, trivial⟩,
  ⟨rfl, _, _, _, _, okc_4 cA _, (by decide : 2 < 9), gw_210 _, trivial, ⟨rfl, Or.inr ⟨_, rfl⟩⟩⟩,
  ⟨rfl, trivial⟩,
  ⟨rfl, trivial⟩,
  ⟨rfl, (by decide : 5 < 6)⟩,
  ⟨rfl, trivial⟩,
  ⟨rfl, _, _, _, _, okc_5 cA _, (by decide : 7 < 14), gw_163 _, trivial, ⟨rfl, rfl⟩⟩,
  ⟨rfl, trivial⟩,
  ⟨rfl, (by decide : ((29 : Nat) : Int) + 24 = ((53 : Nat) : Int))⟩,
  ⟨rfl, trivial⟩,
  ⟨rfl, _, _, _, _, okc_5 cA _, (by decide : 11 < 14), gw_172 _, trivial, ⟨rfl, rfl⟩⟩,
  ⟨rfl, trivial⟩,
  ⟨rfl, (by decide : ((38 : Nat) : Int) + 15 = ((53 : Nat) : Int))⟩,
  ⟨rfl, trivial⟩,
  ⟨rfl, trivial⟩,
  ⟨rfl, 1, _, rfl, ⟨okg 48 _ gc_48, gw_50 _, gw_357 _, ⟨by decide +kernel, by decide +kernel, by decide +kernel⟩, by decide +kernel⟩, gw_358 _, rfl, gw_359 _⟩,
  ⟨rfl, (by decide : ((47 : Nat) : Int) + 6 = ((53 : Nat) : Int))⟩,
  ⟨rfl, trivial⟩,
  ⟨rfl, (by decide : 3 < 6)⟩,
  ⟨rfl, (by decide : 4 < 6), (by decide : Int32.ofInt 1 = 1)⟩,
  ⟨rfl, (by decide : ((56 : Nat) : Int) + (-51) = ((5 : Nat) : Int))⟩,
  ⟨rfl, trivial⟩,
  ⟨rfl, _, rfl, Or.inl ⟨_, rfl⟩⟩, trivial⟩⟩
-- PartitionKernel$Partition.awaitRelease
set_option maxRecDepth 100000 in
theorem dc_32 : ∀ en ∈ cd_32, decode prog_7_method_11_code en.1 = .ok (en.2.1, en.2.2.1 - en.1) := by decide +kernel
set_option maxRecDepth 100000 in
set_option maxHeartbeats 4000000 in
theorem ok_32 (cA : Nat → ClassId) : mq_okm pg_cl (pg_tys cA) (pg_E cA) pg_Z pg_sw pg_mx pg_X 32 cd_32 := ⟨by decide +kernel, by decide +kernel, mq_ok_of dc_32 ⟨⟨rfl, trivial⟩,
  ⟨rfl, _, _, _, _, okc_5 cA _, (by decide : 4 < 14), gw_156 _, trivial, ⟨rfl, rfl⟩⟩,
  ⟨rfl, (by decide : ((4 : Nat) : Int) + 5 = ((9 : Nat) : Int))⟩,
  ⟨rfl, (by decide : Int32.ofInt 1 = 1)⟩,
  ⟨rfl, Or.inr rfl⟩,
  ⟨rfl, trivial⟩,
  ⟨rfl, trivial⟩,
  ⟨rfl, _, _, _, _, okc_5 cA _, (by decide : 9 < 14), gw_168 _, trivial, ⟨rfl, rfl⟩⟩,
  ⟨rfl, trivial⟩,
  ⟨rfl, _, _, _, _, okc_5 cA _, (by decide : 4 < 14), gw_156 _, trivial, ⟨rfl, rfl⟩⟩,
  ⟨rfl, trivial⟩,
  ⟨rfl, 1, _, rfl, ⟨okg 46 _ gc_46, gw_50 _, gw_594 _, ⟨by decide +kernel, by decide +kernel, by decide +kernel⟩, by decide +kernel⟩, gw_595 _, rfl, gw_596 _⟩,
  ⟨rfl, trivial⟩,
  ⟨rfl, trivial⟩,
  ⟨rfl, (by decide : Int32.ofInt 2 = 2)⟩,
  ⟨rfl, trivial⟩,
  ⟨rfl, _, _, _, _, okc_5 cA _, (by decide : 9 < 14), gw_168 _, trivial, ⟨rfl, rfl⟩⟩,
  ⟨rfl, (by decide : Int32.ofInt (-1) = (-1))⟩,
  ⟨rfl, 4, _, rfl, ⟨okg 41 _ gc_41, gw_48 _, gw_598 _, ⟨by decide +kernel, by decide +kernel, by decide +kernel⟩, by decide +kernel⟩, gw_600 _, rfl, gw_6 _⟩,
  ⟨rfl, (by decide : Int32.ofInt 0 = 0)⟩,
  ⟨rfl, Or.inr rfl⟩, trivial⟩⟩
-- PartitionKernel$Partition.awaitSpan
set_option maxRecDepth 100000 in
theorem dc_33 : ∀ en ∈ cd_33, decode prog_7_method_12_code en.1 = .ok (en.2.1, en.2.2.1 - en.1) := by decide +kernel
set_option maxRecDepth 100000 in
set_option maxHeartbeats 4000000 in
theorem ok_33 (cA : Nat → ClassId) : mq_okm pg_cl (pg_tys cA) (pg_E cA) pg_Z pg_sw pg_mx pg_X 33 cd_33 := ⟨by decide +kernel, by decide +kernel, mq_ok_of dc_33 ⟨⟨rfl, trivial⟩,
  ⟨rfl, ⟨okg 88 _ gc_88, gw_45 _, Or.inr ⟨_, pX_750⟩, ⟨by decide +kernel, by decide +kernel, by decide +kernel⟩, by decide +kernel⟩, gw_529 _⟩,
  ⟨rfl, (by decide : ((4 : Nat) : Int) + 5 = ((9 : Nat) : Int))⟩,
  ⟨rfl, (by decide : Int32.ofInt 1 = 1)⟩,
  ⟨rfl, Or.inr rfl⟩,
  ⟨rfl, trivial⟩,
  ⟨rfl, trivial⟩,
  ⟨rfl, (by decide : Int32.ofInt 2 = 2)⟩,
  ⟨rfl, trivial⟩,
  ⟨rfl, trivial⟩,
  ⟨rfl, trivial⟩,
  ⟨rfl, (by decide : Int32.ofInt (-1) = (-1))⟩,
  ⟨rfl, 4, _, rfl, ⟨okg 41 _ gc_41, gw_48 _, gw_598 _, ⟨by decide +kernel, by decide +kernel, by decide +kernel⟩, by decide +kernel⟩, gw_600 _, rfl, gw_6 _⟩,
  ⟨rfl, (by decide : Int32.ofInt 0 = 0)⟩,
  ⟨rfl, Or.inr rfl⟩, trivial⟩⟩
-- PartitionKernel$Partition.startDormant
set_option maxRecDepth 100000 in
theorem dc_34 : ∀ en ∈ cd_34, decode prog_7_method_13_code en.1 = .ok (en.2.1, en.2.2.1 - en.1) := by decide +kernel
set_option maxRecDepth 100000 in
set_option maxHeartbeats 4000000 in
theorem ok_34 (cA : Nat → ClassId) : mq_okm pg_cl (pg_tys cA) (pg_E cA) pg_Z pg_sw pg_mx pg_X 34 cd_34 := ⟨by decide +kernel, by decide +kernel, mq_ok_of dc_34 ⟨⟨rfl, trivial⟩,
  ⟨rfl, trivial⟩,
  ⟨rfl, 1, _, rfl, ⟨okg 24 _ gc_24, gw_48 _, gw_755 _, ⟨by decide +kernel, by decide +kernel, by decide +kernel⟩, by decide +kernel⟩, gw_326 _, rfl, gw_327 _⟩,
  ⟨rfl, (by decide : 3 < 4)⟩,
  ⟨rfl, trivial⟩,
  ⟨rfl, (by decide : ((7 : Nat) : Int) + 10 = ((17 : Nat) : Int))⟩,
  ⟨rfl, trivial⟩,
  ⟨rfl, _, _, _, _, okc_5 cA _, (by decide : 7 < 14), gw_163 _, trivial, ⟨rfl, rfl⟩⟩,
  ⟨rfl, (by decide : ((14 : Nat) : Int) + 5 = ((19 : Nat) : Int))⟩,
  ⟨rfl, (by decide : Int32.ofInt 1 = 1)⟩,
  ⟨rfl, Or.inr rfl⟩,
  ⟨rfl, trivial⟩,
  ⟨rfl, trivial⟩,
  ⟨rfl, trivial⟩,
  ⟨rfl, 2, _, rfl, ⟨okg 27 _ gc_27, gw_48 _, gw_586 _, ⟨by decide +kernel, by decide +kernel, by decide +kernel⟩, by decide +kernel⟩, gw_587 _, rfl, gw_588 _⟩,
  ⟨rfl, (by decide : Int32.ofInt 0 = 0)⟩,
  ⟨rfl, Or.inr rfl⟩, trivial⟩⟩
-- PartitionKernel$Partition.setPriority
set_option maxRecDepth 100000 in
theorem dc_35 : ∀ en ∈ cd_35, decode prog_7_method_14_code en.1 = .ok (en.2.1, en.2.2.1 - en.1) := by decide +kernel
set_option maxRecDepth 100000 in
set_option maxHeartbeats 4000000 in
theorem ok_35 (cA : Nat → ClassId) : mq_okm pg_cl (pg_tys cA) (pg_E cA) pg_Z pg_sw pg_mx pg_X 35 cd_35 := ⟨by decide +kernel, by decide +kernel, mq_ok_of dc_35 ⟨⟨rfl, trivial⟩,
  ⟨rfl, trivial⟩,
  ⟨rfl, 1, _, rfl, ⟨okg 24 _ gc_24, gw_48 _, gw_755 _, ⟨by decide +kernel, by decide +kernel, by decide +kernel⟩, by decide +kernel⟩, gw_326 _, rfl, gw_327 _⟩,
  ⟨rfl, (by decide : 3 < 4)⟩,
  ⟨rfl, trivial⟩,
  ⟨rfl, (by decide : ((7 : Nat) : Int) + 10 = ((17 : Nat) : Int))⟩,
  ⟨rfl, trivial⟩,
  ⟨rfl, ⟨okg 87 _ gc_87, gw_45 _, Or.inr ⟨_, pX_760⟩, ⟨by decide +kernel, by decide +kernel, by decide +kernel⟩, by decide +kernel⟩, gw_526 _⟩,
  ⟨rfl, (by decide : ((14 : Nat) : Int) + 5 = ((19 : Nat) : Int))⟩,
  ⟨rfl, (by decide : Int32.ofInt 1 = 1)⟩,
  ⟨rfl, Or.inr rfl⟩,
  ⟨rfl, trivial⟩,
  ⟨rfl, trivial⟩,
  ⟨rfl, _, _, _, _, okc_5 cA _, (by decide : 3 < 14), gw_154 _, Or.inl rfl, ⟨rfl, rfl⟩⟩,
  ⟨rfl, (by decide : Int32.ofInt 0 = 0)⟩,
  ⟨rfl, Or.inr rfl⟩, trivial⟩⟩
-- PartitionKernel$Partition.takeSemaphore
set_option maxRecDepth 100000 in
theorem dc_36 : ∀ en ∈ cd_36, decode prog_7_method_15_code en.1 = .ok (en.2.1, en.2.2.1 - en.1) := by decide +kernel
set_option maxRecDepth 100000 in
set_option maxHeartbeats 4000000 in
theorem ok_36 (cA : Nat → ClassId) : mq_okm pg_cl (pg_tys cA) (pg_E cA) pg_Z pg_sw pg_mx pg_X 36 cd_36 := ⟨by decide +kernel, by decide +kernel, mq_ok_of dc_36 ⟨⟨rfl, trivial⟩,
  ⟨rfl, ⟨okg 39 _ gc_39, gw_48 _, Or.inl (gw_361 _), ⟨by decide +kernel, by decide +kernel, by decide +kernel⟩, by decide +kernel⟩, gw_362 _⟩,
  ⟨rfl, (by decide : ((4 : Nat) : Int) + 5 = ((9 : Nat) : Int))⟩,
  ⟨rfl, (by decide : Int32.ofInt 1 = 1)⟩,
  ⟨rfl, Or.inr rfl⟩,
  ⟨rfl, trivial⟩,
  ⟨rfl, _, _, _, _, okc_4 cA _, (by decide : 3 < 9), gw_212 _, trivial, ⟨rfl, Or.inr ⟨_, rfl⟩⟩⟩,
  ⟨rfl, trivial⟩,
  ⟨rfl, trivial⟩,
  ⟨rfl, (by decide : ((15 : Nat) : Int) + 16 = ((31 : Nat) : Int))⟩,
  ⟨rfl, trivial⟩,
  ⟨rfl, _, _, _, _, okc_4 cA _, (by decide : 3 < 9), gw_212 _, trivial, ⟨rfl, Or.inr ⟨_, rfl⟩⟩⟩,
  ⟨rfl, trivial⟩,
  ⟨rfl, trivial⟩,
  ⟨rfl, trivial⟩,
  ⟨rfl, (by decide : Int32.ofInt 1 = 1)⟩,
  ⟨rfl, trivial⟩,
  ⟨rfl, trivial⟩,
  ⟨rfl, (by decide : ((28 : Nat) : Int) + 11 = ((39 : Nat) : Int))⟩,
  ⟨rfl, trivial⟩,
  ⟨rfl, trivial⟩,
  ⟨rfl, (by decide : Int32.ofInt 3 = 3)⟩,
  ⟨rfl, (by decide : Int32.ofInt (-1) = (-1))⟩,
  ⟨rfl, trivial⟩,
  ⟨rfl, 4, _, rfl, ⟨okg 41 _ gc_41, gw_48 _, gw_598 _, ⟨by decide +kernel, by decide +kernel, by decide +kernel⟩, by decide +kernel⟩, gw_600 _, rfl, gw_6 _⟩,
  ⟨rfl, (by decide : Int32.ofInt 0 = 0)⟩,
  ⟨rfl, Or.inr rfl⟩, trivial⟩⟩
-- PartitionKernel$Partition.giveSemaphore
set_option maxRecDepth 100000 in
theorem dc_37 : ∀ en ∈ cd_37, decode prog_7_method_16_code en.1 = .ok (en.2.1, en.2.2.1 - en.1) := by decide +kernel
set_option maxRecDepth 100000 in
set_option maxHeartbeats 4000000 in
theorem ok_37 (cA : Nat → ClassId) : mq_okm pg_cl (pg_tys cA) (pg_E cA) pg_Z pg_sw pg_mx pg_X 37 cd_37 := ⟨by decide +kernel, by decide +kernel, mq_ok_of dc_37 ⟨⟨rfl, trivial⟩,
  ⟨rfl, ⟨okg 39 _ gc_39, gw_48 _, Or.inl (gw_361 _), ⟨by decide +kernel, by decide +kernel, by decide +kernel⟩, by decide +kernel⟩, gw_362 _⟩,
  ⟨rfl, (by decide : ((4 : Nat) : Int) + 5 = ((9 : Nat) : Int))⟩,
  ⟨rfl, (by decide : Int32.ofInt 1 = 1)⟩,
  ⟨rfl, Or.inr rfl⟩,
  ⟨rfl, trivial⟩,
  ⟨rfl, (by decide : Int32.ofInt 3 = 3)⟩,
  ⟨rfl, trivial⟩,
  ⟨rfl, 2, _, rfl, ⟨okg 31 _ gc_31, gw_48 _, gw_353 _, ⟨by decide +kernel, by decide +kernel, by decide +kernel⟩, by decide +kernel⟩, gw_354 _, rfl, gw_355 _⟩,
  ⟨rfl, (by decide : 2 < 3)⟩,
  ⟨rfl, trivial⟩,
  ⟨rfl, (by decide : ((17 : Nat) : Int) + 13 = ((30 : Nat) : Int))⟩,
  ⟨rfl, trivial⟩,
  ⟨rfl, trivial⟩,
  ⟨rfl, (by decide : Int32.ofInt 1 = 1)⟩,
  ⟨rfl, (by decide : Int32.ofInt (-1) = (-1))⟩,
  ⟨rfl, (by decide : Int32.ofInt (-1) = (-1))⟩,
  ⟨rfl, 4, _, rfl, ⟨okg 41 _ gc_41, gw_48 _, gw_598 _, ⟨by decide +kernel, by decide +kernel, by decide +kernel⟩, by decide +kernel⟩, gw_600 _, rfl, gw_6 _⟩,
  ⟨rfl, (by decide : Int32.ofInt 0 = 0)⟩,
  ⟨rfl, Or.inr rfl⟩,
  ⟨rfl, trivial⟩,
  ⟨rfl, _, _, _, _, okc_4 cA _, (by decide : 3 < 9), gw_212 _, trivial, ⟨rfl, Or.inr ⟨_, rfl⟩⟩⟩,
  ⟨rfl, trivial⟩,
  ⟨rfl, trivial⟩,
  ⟨rfl, (by decide : (Int16.ofInt 1000).toInt32 = 1000)⟩,
  ⟨rfl, (by decide : ((39 : Nat) : Int) + 5 = ((44 : Nat) : Int))⟩,
  ⟨rfl, (by decide : Int32.ofInt 1 = 1)⟩,
  ⟨rfl, Or.inr rfl⟩,
  ⟨rfl, trivial⟩,
  ⟨rfl, _, _, _, _, okc_4 cA _, (by decide : 3 < 9), gw_212 _, trivial, ⟨rfl, Or.inr ⟨_, rfl⟩⟩⟩,
  ⟨rfl, trivial⟩,
  ⟨rfl, trivial⟩,
  ⟨rfl, trivial⟩,
  ⟨rfl, (by decide : Int32.ofInt 1 = 1)⟩,
  ⟨rfl, trivial⟩,
  ⟨rfl, trivial⟩,
  ⟨rfl, (by decide : Int32.ofInt 0 = 0)⟩,
  ⟨rfl, Or.inr rfl⟩, trivial⟩⟩
-- PartitionKernel$Partition.firstReadyNumber
set_option maxRecDepth 100000 in
theorem dc_38 : ∀ en ∈ cd_38, decode prog_7_method_17_code en.1 = .ok (en.2.1, en.2.2.1 - en.1) := by decide +kernel
set_option maxRecDepth 100000 in
set_option maxHeartbeats 4000000 in
theorem ok_38 (cA : Nat → ClassId) : mq_okm pg_cl (pg_tys cA) (pg_E cA) pg_Z pg_sw pg_mx pg_X 38 cd_38 := ⟨by decide +kernel, by decide +kernel, mq_ok_of dc_38 ⟨⟨rfl, trivial⟩,
  ⟨rfl, (by decide : Int32.ofInt 1 = 1)⟩,
  ⟨rfl, (by decide : Int32.ofInt (-1) = (-1))⟩,
  ⟨rfl, 2, _, rfl, ⟨okg 31 _ gc_31, gw_48 _, gw_353 _, ⟨by decide +kernel, by decide +kernel, by decide +kernel⟩, by decide +kernel⟩, gw_354 _, rfl, gw_355 _⟩,
  ⟨rfl, (by decide : 1 < 2)⟩,
  ⟨rfl, trivial⟩,
  ⟨rfl, (by decide : ((8 : Nat) : Int) + 7 = ((15 : Nat) : Int))⟩,
  ⟨rfl, (by decide : Int32.ofInt (-1) = (-1))⟩,
  ⟨rfl, (by decide : ((12 : Nat) : Int) + 7 = ((19 : Nat) : Int))⟩,
  ⟨rfl, trivial⟩,
  ⟨rfl, _, _, _, _, okc_5 cA _, (by decide : 0 < 14), gw_149 _, trivial, ⟨rfl, rfl⟩⟩,
  ⟨rfl, Or.inr rfl⟩, trivial⟩⟩
-- PartitionKernel$Partition.isSemaphore
set_option maxRecDepth 100000 in
theorem dc_39 : ∀ en ∈ cd_39, decode prog_7_method_18_code en.1 = .ok (en.2.1, en.2.2.1 - en.1) := by decide +kernel
set_option maxRecDepth 100000 in
set_option maxHeartbeats 4000000 in
theorem ok_39 (cA : Nat → ClassId) : mq_okm pg_cl (pg_tys cA) (pg_E cA) pg_Z pg_sw pg_mx pg_X 39 cd_39 := ⟨by decide +kernel, by decide +kernel, mq_ok_of dc_39 ⟨⟨rfl, trivial⟩,
  ⟨rfl, (by decide : ((1 : Nat) : Int) + 12 = ((13 : Nat) : Int))⟩,
  ⟨rfl, trivial⟩,
  ⟨rfl, (by decide : Int32.ofInt 4 = 4)⟩,
  ⟨rfl, (by decide : ((6 : Nat) : Int) + 7 = ((13 : Nat) : Int))⟩,
  ⟨rfl, (by decide : Int32.ofInt 1 = 1)⟩,
  ⟨rfl, (by decide : ((10 : Nat) : Int) + 4 = ((14 : Nat) : Int))⟩,
  ⟨rfl, (by decide : Int32.ofInt 0 = 0)⟩,
  ⟨rfl, Or.inl ⟨rfl, rfl⟩⟩, trivial⟩⟩
-- PartitionKernel$Partition.firstSleeper
set_option maxRecDepth 100000 in
theorem dc_40 : ∀ en ∈ cd_40, decode prog_7_method_19_code en.1 = .ok (en.2.1, en.2.2.1 - en.1) := by decide +kernel
set_option maxRecDepth 100000 in
set_option maxHeartbeats 4000000 in
theorem ok_40 (cA : Nat → ClassId) : mq_okm pg_cl (pg_tys cA) (pg_E cA) pg_Z pg_sw pg_mx pg_X 40 cd_40 := ⟨by decide +kernel, by decide +kernel, mq_ok_of dc_40 ⟨⟨rfl, trivial⟩,
  ⟨rfl, (by decide : 2 < 6)⟩,
  ⟨rfl, (by decide : Int32.ofInt 0 = 0)⟩,
  ⟨rfl, (by decide : 3 < 6)⟩,
  ⟨rfl, trivial⟩,
  ⟨rfl, trivial⟩,
  ⟨rfl, _, _, _, _, okc_4 cA _, (by decide : 5 < 9), gw_215 _, trivial, ⟨rfl, rfl⟩⟩,
  ⟨rfl, (by decide : ((9 : Nat) : Int) + 66 = ((75 : Nat) : Int))⟩,
  ⟨rfl, trivial⟩,
  ⟨rfl, _, _, _, _, okc_4 cA _, (by decide : 2 < 9), gw_210 _, trivial, ⟨rfl, Or.inr ⟨_, rfl⟩⟩⟩,
  ⟨rfl, trivial⟩,
  ⟨rfl, trivial⟩,
  ⟨rfl, (by decide : 4 < 6)⟩,
  ⟨rfl, trivial⟩,
  ⟨rfl, _, _, _, _, okc_5 cA _, (by decide : 7 < 14), gw_163 _, trivial, ⟨rfl, rfl⟩⟩,
  ⟨rfl, (by decide : Int32.ofInt 2 = 2)⟩,
  ⟨rfl, (by decide : ((26 : Nat) : Int) + 16 = ((42 : Nat) : Int))⟩,
  ⟨rfl, trivial⟩,
  ⟨rfl, _, _, _, _, okc_5 cA _, (by decide : 10 < 14), gw_170 _, trivial, ⟨rfl, rfl⟩⟩,
  ⟨rfl, trivial⟩,
  ⟨rfl, (by decide : ((35 : Nat) : Int) + 7 = ((42 : Nat) : Int))⟩,
  ⟨rfl, (by decide : Int32.ofInt 1 = 1)⟩,
  ⟨rfl, (by decide : ((39 : Nat) : Int) + 4 = ((43 : Nat) : Int))⟩,
  ⟨rfl, (by decide : Int32.ofInt 0 = 0)⟩,
  ⟨rfl, (by decide : 5 < 6)⟩,
  ⟨rfl, trivial⟩,
  ⟨rfl, (by decide : ((47 : Nat) : Int) + 22 = ((69 : Nat) : Int))⟩,
  ⟨rfl, trivial⟩,
  ⟨rfl, (by decide : ((51 : Nat) : Int) + 15 = ((66 : Nat) : Int))⟩,
  ⟨rfl, trivial⟩,
  ⟨rfl, _, _, _, _, okc_5 cA _, (by decide : 10 < 14), gw_170 _, trivial, ⟨rfl, rfl⟩⟩,
  ⟨rfl, trivial⟩,
  ⟨rfl, _, _, _, _, okc_5 cA _, (by decide : 10 < 14), gw_170 _, trivial, ⟨rfl, rfl⟩⟩,
  ⟨rfl, (by decide : ((63 : Nat) : Int) + 6 = ((69 : Nat) : Int))⟩,
  ⟨rfl, trivial⟩,
  ⟨rfl, (by decide : 2 < 6)⟩,
  ⟨rfl, (by decide : 3 < 6), (by decide : Int32.ofInt 1 = 1)⟩,
  ⟨rfl, (by decide : ((72 : Nat) : Int) + (-68) = ((4 : Nat) : Int))⟩,
  ⟨rfl, trivial⟩,
  ⟨rfl, _, rfl, Or.inl ⟨_, rfl⟩⟩, trivial⟩⟩
