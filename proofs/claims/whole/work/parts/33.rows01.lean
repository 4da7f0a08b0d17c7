/-! Rows of methods, by program. -/
-- PartitionKernel$Memory.shiftOf
set_option maxRecDepth 100000 in
theorem dc_21 : ∀ en ∈ cd_21, decode prog_6_method_7_code en.1 = .ok (en.2.1, en.2.2.1 - en.1) := by decide +kernel
set_option maxRecDepth 100000 in
set_option maxHeartbeats 4000000 in
theorem ok_21 (cA : Nat → ClassId) : mq_okm pg_cl (pg_tys cA) (pg_E cA) pg_Z pg_sw pg_mx pg_X 21 cd_21 := ⟨by decide +kernel, mq_ok_of dc_21 ⟨⟨rfl, trivial⟩,
  ⟨rfl, by decide⟩,
  ⟨rfl, trivial⟩,
  ⟨rfl, by decide⟩,
  ⟨rfl, trivial⟩,
  ⟨rfl, Or.inr rfl⟩, trivial⟩⟩
-- PartitionKernel$Partition.<init>
set_option maxRecDepth 100000 in
theorem dc_22 : ∀ en ∈ cd_22, decode prog_7_method_1_code en.1 = .ok (en.2.1, en.2.2.1 - en.1) := by decide +kernel
set_option maxRecDepth 100000 in
set_option maxHeartbeats 4000000 in
theorem ok_22 (cA : Nat → ClassId) : mq_okm pg_cl (pg_tys cA) (pg_E cA) pg_Z pg_sw pg_mx pg_X 22 cd_22 := ⟨by decide +kernel, mq_ok_of dc_22 ⟨⟨rfl, trivial⟩,
  ⟨rfl, rfl, gw_130 _, gw_67 _, gw_obj _⟩,
  ⟨rfl, trivial⟩,
  ⟨rfl, fun _ => ⟨by decide, _, _, _, _, okc_3 cA _, gw_131 _, gw_132 _, gw_49 _⟩⟩,
  ⟨rfl, trivial⟩,
  ⟨rfl, 0, rfl, ⟨okg 15 _ rfl, gw_49 _, Or.inr ⟨_, pX_133⟩, ⟨by decide, by decide, by decide +kernel⟩, by decide⟩, rfl, gw_134 _, rfl⟩,
  ⟨rfl, _, _, _, _, okc_4 cA _, by decide, gw_208 _, Or.inr ⟨rfl, rfl, rfl⟩, ⟨rfl, Or.inl ⟨_, rfl⟩⟩⟩,
  ⟨rfl, trivial⟩,
  ⟨rfl, by decide⟩,
  ⟨rfl, by decide, by decide, rfl, _, 6, rfl, gw_141 _, pX_ao6⟩,
  ⟨rfl, _, _, _, _, okc_4 cA _, by decide, gw_210 _, Or.inr ⟨rfl, rfl, rfl⟩, ⟨rfl, Or.inr ⟨_, rfl⟩⟩⟩,
  ⟨rfl, trivial⟩,
  ⟨rfl, by decide⟩,
  ⟨rfl, by decide, by decide, Or.inl ⟨rfl, rfl, gw_96 _⟩⟩,
  ⟨rfl, _, _, _, _, okc_4 cA _, by decide, gw_212 _, Or.inr ⟨rfl, rfl, rfl⟩, ⟨rfl, Or.inr ⟨_, rfl⟩⟩⟩,
  ⟨rfl, trivial⟩,
  ⟨rfl, by decide⟩,
  ⟨rfl, by decide, by decide, Or.inl ⟨rfl, rfl, gw_96 _⟩⟩,
  ⟨rfl, _, _, _, _, okc_4 cA _, by decide, gw_213 _, Or.inr ⟨rfl, rfl, rfl⟩, ⟨rfl, Or.inr ⟨_, rfl⟩⟩⟩,
  ⟨rfl, trivial⟩,
  ⟨rfl, trivial⟩,
  ⟨rfl, _, _, _, _, okc_4 cA _, by decide, gw_206 _, Or.inr ⟨rfl, rfl, rfl⟩, ⟨rfl, rfl⟩⟩,
  ⟨rfl, by decide⟩,
  ⟨rfl, by decide⟩,
  ⟨rfl, trivial⟩,
  ⟨rfl, by decide⟩,
  ⟨rfl, by decide⟩,
  ⟨rfl, trivial⟩,
  ⟨rfl, _, _, _, _, okc_4 cA _, by decide, gw_210 _, trivial, ⟨rfl, Or.inr ⟨_, rfl⟩⟩⟩,
  ⟨rfl, trivial⟩,
  ⟨rfl, fun _ => ⟨by decide, _, _, _, _, okc_5 cA _, gw_141 _, gw_143 _, gw_50 _⟩⟩,
  ⟨rfl, trivial⟩,
  ⟨rfl, trivial⟩,
  ⟨rfl, 1, rfl, ⟨okg 42 _ rfl, gw_50 _, Or.inl (gw_144 _), ⟨by decide, by decide, by decide +kernel⟩, by decide⟩, rfl, gw_145 _, rfl⟩,
  ⟨rfl, trivial⟩,
  ⟨rfl, by decide, by decide⟩,
  ⟨rfl, by decide⟩,
  ⟨rfl, rfl⟩, trivial⟩⟩
-- PartitionKernel$Partition.add
set_option maxRecDepth 100000 in
theorem dc_23 : ∀ en ∈ cd_23, decode prog_7_method_2_code en.1 = .ok (en.2.1, en.2.2.1 - en.1) := by decide +kernel
set_option maxRecDepth 100000 in
set_option maxHeartbeats 4000000 in
theorem ok_23 (cA : Nat → ClassId) : mq_okm pg_cl (pg_tys cA) (pg_E cA) pg_Z pg_sw pg_mx pg_X 23 cd_23 := ⟨by decide +kernel, mq_ok_of dc_23 ⟨⟨rfl, trivial⟩,
  ⟨rfl, _, _, _, _, okc_4 cA _, by decide, gw_215 _, trivial, ⟨rfl, rfl⟩⟩,
  ⟨rfl, by decide⟩,
  ⟨rfl, by decide⟩,
  ⟨rfl, by decide⟩,
  ⟨rfl, Or.inr rfl⟩,
  ⟨rfl, trivial⟩,
  ⟨rfl, _, _, _, _, okc_4 cA _, by decide, gw_210 _, trivial, ⟨rfl, Or.inr ⟨_, rfl⟩⟩⟩,
  ⟨rfl, trivial⟩,
  ⟨rfl, _, _, _, _, okc_4 cA _, by decide, gw_215 _, trivial, ⟨rfl, rfl⟩⟩,
  ⟨rfl, trivial⟩,
  ⟨rfl, by decide⟩,
  ⟨rfl, trivial⟩,
  ⟨rfl, trivial⟩,
  ⟨rfl, _, _, _, _, okc_5 cA _, by decide, gw_152 _, Or.inl rfl, ⟨rfl, rfl⟩⟩,
  ⟨rfl, trivial⟩,
  ⟨rfl, trivial⟩,
  ⟨rfl, _, _, _, _, okc_5 cA _, by decide, gw_154 _, Or.inl rfl, ⟨rfl, rfl⟩⟩,
  ⟨rfl, trivial⟩,
  ⟨rfl, trivial⟩,
  ⟨rfl, _, _, _, _, okc_5 cA _, by decide, gw_156 _, Or.inl rfl, ⟨rfl, rfl⟩⟩,
  ⟨rfl, trivial⟩,
  ⟨rfl, trivial⟩,
  ⟨rfl, _, _, _, _, okc_5 cA _, by decide, gw_157 _, Or.inl rfl, ⟨rfl, rfl⟩⟩,
  ⟨rfl, trivial⟩,
  ⟨rfl, trivial⟩,
  ⟨rfl, _, _, _, _, okc_4 cA _, by decide, gw_215 _, trivial, ⟨rfl, rfl⟩⟩,
  ⟨rfl, by decide⟩,
  ⟨rfl, trivial⟩,
  ⟨rfl, _, _, _, _, okc_4 cA _, by decide, gw_215 _, Or.inl rfl, ⟨rfl, rfl⟩⟩,
  ⟨rfl, trivial⟩,
  ⟨rfl, _, _, _, _, okc_5 cA _, by decide, gw_149 _, trivial, ⟨rfl, rfl⟩⟩,
  ⟨rfl, Or.inr rfl⟩, trivial⟩⟩
-- PartitionKernel$Partition.find
set_option maxRecDepth 100000 in
theorem dc_24 : ∀ en ∈ cd_24, decode prog_7_method_3_code en.1 = .ok (en.2.1, en.2.2.1 - en.1) := by decide +kernel
set_option maxRecDepth 100000 in
set_option maxHeartbeats 4000000 in
theorem ok_24 (cA : Nat → ClassId) : mq_okm pg_cl (pg_tys cA) (pg_E cA) pg_Z pg_sw pg_mx pg_X 24 cd_24 := ⟨by decide +kernel, mq_ok_of dc_24 ⟨⟨rfl, trivial⟩,
  ⟨rfl, by decide⟩,
  ⟨rfl, trivial⟩,
  ⟨rfl, trivial⟩,
  ⟨rfl, _, _, _, _, okc_4 cA _, by decide, gw_215 _, trivial, ⟨rfl, rfl⟩⟩,
  ⟨rfl, by decide⟩,
  ⟨rfl, trivial⟩,
  ⟨rfl, _, _, _, _, okc_4 cA _, by decide, gw_210 _, trivial, ⟨rfl, Or.inr ⟨_, rfl⟩⟩⟩,
  ⟨rfl, trivial⟩,
  ⟨rfl, trivial⟩,
  ⟨rfl, by decide⟩,
  ⟨rfl, trivial⟩,
  ⟨rfl, _, rfl, Or.inl ⟨_, rfl⟩⟩, trivial⟩⟩
-- PartitionKernel$Partition.actionFor
set_option maxRecDepth 100000 in
theorem dc_25 : ∀ en ∈ cd_25, decode prog_7_method_4_code en.1 = .ok (en.2.1, en.2.2.1 - en.1) := by decide +kernel
set_option maxRecDepth 100000 in
set_option maxHeartbeats 4000000 in
theorem ok_25 (cA : Nat → ClassId) : mq_okm pg_cl (pg_tys cA) (pg_E cA) pg_Z pg_sw pg_mx pg_X 25 cd_25 := ⟨by decide +kernel, mq_ok_of dc_25 ⟨⟨rfl, trivial⟩,
  ⟨rfl, by decide⟩,
  ⟨rfl, trivial⟩,
  ⟨rfl, by decide⟩,
  ⟨rfl, by decide⟩,
  ⟨rfl, trivial⟩,
  ⟨rfl, _, _, _, _, okc_4 cA _, by decide, gw_213 _, trivial, ⟨rfl, Or.inr ⟨_, rfl⟩⟩⟩,
  ⟨rfl, trivial⟩,
  ⟨rfl, trivial⟩,
  ⟨rfl, by decide⟩,
  ⟨rfl, by decide⟩,
  ⟨rfl, Or.inr rfl⟩, trivial⟩⟩
-- PartitionKernel$Partition.tell
set_option maxRecDepth 100000 in
theorem dc_26 : ∀ en ∈ cd_26, decode prog_7_method_5_code en.1 = .ok (en.2.1, en.2.2.1 - en.1) := by decide +kernel
set_option maxRecDepth 100000 in
set_option maxHeartbeats 4000000 in
theorem ok_26 (cA : Nat → ClassId) : mq_okm pg_cl (pg_tys cA) (pg_E cA) pg_Z pg_sw pg_mx pg_X 26 cd_26 := ⟨by decide +kernel, mq_ok_of dc_26 ⟨⟨rfl, trivial⟩,
  ⟨by decide, by decide, by decide, by decide, by decide, by decide, by decide, by decide, by decide, by decide, trivial⟩,
  ⟨rfl, trivial⟩,
  ⟨rfl, _, _, _, _, okc_4 cA _, by decide, gw_220 _, trivial, ⟨rfl, rfl⟩⟩,
  ⟨rfl, by decide⟩,
  ⟨rfl, by decide⟩,
  ⟨rfl, by decide⟩,
  ⟨rfl, by decide⟩,
  ⟨rfl, Or.inr rfl⟩,
  ⟨rfl, trivial⟩,
  ⟨rfl, _, _, _, _, okc_4 cA _, by decide, gw_215 _, trivial, ⟨rfl, rfl⟩⟩,
  ⟨rfl, Or.inr rfl⟩,
  ⟨rfl, trivial⟩,
  ⟨rfl, 0, _, rfl, ⟨okg 38 _ rfl, gw_48 _, gw_349 _, ⟨by decide, by decide, by decide +kernel⟩, by decide⟩, gw_351 _, rfl, gw_2 _⟩,
  ⟨rfl, Or.inr rfl⟩,
  ⟨rfl, trivial⟩,
  ⟨rfl, _, _, _, _, okc_4 cA _, by decide, gw_218 _, trivial, ⟨rfl, rfl⟩⟩,
  ⟨rfl, Or.inr rfl⟩,
  ⟨rfl, trivial⟩,
  ⟨rfl, by decide⟩,
  ⟨rfl, trivial⟩,
  ⟨rfl, ⟨okg 39 _ rfl, gw_48 _, Or.inl (gw_361 _), ⟨by decide, by decide, by decide +kernel⟩, by decide⟩, gw_362 _⟩,
  ⟨rfl, by decide⟩,
  ⟨rfl, trivial⟩,
  ⟨rfl, _, _, _, _, okc_4 cA _, by decide, gw_212 _, trivial, ⟨rfl, Or.inr ⟨_, rfl⟩⟩⟩,
  ⟨rfl, trivial⟩,
  ⟨rfl, by decide⟩,
  ⟨rfl, trivial⟩,
  ⟨rfl, trivial⟩,
  ⟨rfl, by decide⟩,
  ⟨rfl, by decide⟩,
  ⟨rfl, Or.inr rfl⟩, trivial⟩⟩
-- PartitionKernel$Partition.start
set_option maxRecDepth 100000 in
theorem dc_27 : ∀ en ∈ cd_27, decode prog_7_method_6_code en.1 = .ok (en.2.1, en.2.2.1 - en.1) := by decide +kernel
set_option maxRecDepth 100000 in
set_option maxHeartbeats 4000000 in
theorem ok_27 (cA : Nat → ClassId) : mq_okm pg_cl (pg_tys cA) (pg_E cA) pg_Z pg_sw pg_mx pg_X 27 cd_27 := ⟨by decide +kernel, mq_ok_of dc_27 ⟨⟨rfl, trivial⟩,
  ⟨rfl, 0, _, rfl, ⟨okg 45 _ rfl, gw_50 _, gw_590 _, ⟨by decide, by decide, by decide +kernel⟩, by decide⟩, gw_591 _, rfl, gw_592 _⟩,
  ⟨rfl, trivial⟩,
  ⟨rfl, trivial⟩,
  ⟨rfl, 1, _, rfl, ⟨okg 46 _ rfl, gw_50 _, gw_594 _, ⟨by decide, by decide, by decide +kernel⟩, by decide⟩, gw_595 _, rfl, gw_596 _⟩,
  ⟨rfl, trivial⟩,
  ⟨rfl, trivial⟩,
  ⟨rfl, by decide⟩,
  ⟨rfl, by decide⟩,
  ⟨rfl, by decide⟩,
  ⟨rfl, 4, _, rfl, ⟨okg 41 _ rfl, gw_48 _, gw_598 _, ⟨by decide, by decide, by decide +kernel⟩, by decide⟩, gw_600 _, rfl, gw_6 _⟩,
  ⟨rfl, rfl⟩, trivial⟩⟩
-- PartitionKernel$Partition.startAll
set_option maxRecDepth 100000 in
theorem dc_28 : ∀ en ∈ cd_28, decode prog_7_method_7_code en.1 = .ok (en.2.1, en.2.2.1 - en.1) := by decide +kernel
set_option maxRecDepth 100000 in
set_option maxHeartbeats 4000000 in
theorem ok_28 (cA : Nat → ClassId) : mq_okm pg_cl (pg_tys cA) (pg_E cA) pg_Z pg_sw pg_mx pg_X 28 cd_28 := ⟨by decide +kernel, mq_ok_of dc_28 ⟨⟨rfl, by decide⟩,
  ⟨rfl, by decide⟩,
  ⟨rfl, trivial⟩,
  ⟨rfl, trivial⟩,
  ⟨rfl, _, _, _, _, okc_4 cA _, by decide, gw_215 _, trivial, ⟨rfl, rfl⟩⟩,
  ⟨rfl, by decide⟩,
  ⟨rfl, trivial⟩,
  ⟨rfl, trivial⟩,
  ⟨rfl, _, _, _, _, okc_4 cA _, by decide, gw_210 _, trivial, ⟨rfl, Or.inr ⟨_, rfl⟩⟩⟩,
  ⟨rfl, trivial⟩,
  ⟨rfl, trivial⟩,
  ⟨rfl, trivial⟩,
  ⟨rfl, 2, _, rfl, ⟨okg 27 _ rfl, gw_48 _, gw_586 _, ⟨by decide, by decide, by decide +kernel⟩, by decide⟩, gw_587 _, rfl, gw_588 _⟩,
  ⟨rfl, by decide, by decide⟩,
  ⟨rfl, by decide⟩,
  ⟨rfl, by decide⟩,
  ⟨rfl, by decide⟩,
  ⟨rfl, trivial⟩,
  ⟨rfl, by decide⟩,
  ⟨rfl, by decide⟩,
  ⟨rfl, trivial⟩,
  ⟨rfl, _, _, _, _, okc_4 cA _, by decide, gw_212 _, trivial, ⟨rfl, Or.inr ⟨_, rfl⟩⟩⟩,
  ⟨rfl, trivial⟩,
  ⟨rfl, by decide⟩,
  ⟨rfl, trivial⟩,
  ⟨rfl, by decide, by decide⟩,
  ⟨rfl, by decide⟩,
  ⟨rfl, rfl⟩, trivial⟩⟩
-- PartitionKernel$Partition.rest
set_option maxRecDepth 100000 in
theorem dc_29 : ∀ en ∈ cd_29, decode prog_7_method_8_code en.1 = .ok (en.2.1, en.2.2.1 - en.1) := by decide +kernel
set_option maxRecDepth 100000 in
set_option maxHeartbeats 4000000 in
theorem ok_29 (cA : Nat → ClassId) : mq_okm pg_cl (pg_tys cA) (pg_E cA) pg_Z pg_sw pg_mx pg_X 29 cd_29 := ⟨by decide +kernel, mq_ok_of dc_29 ⟨⟨rfl, trivial⟩,
  ⟨rfl, by decide⟩,
  ⟨rfl, _, _, _, _, okc_5 cA _, by decide, gw_165 _, Or.inl rfl, ⟨rfl, rfl⟩⟩,
  ⟨rfl, trivial⟩,
  ⟨rfl, trivial⟩,
  ⟨rfl, by decide⟩,
  ⟨rfl, by decide⟩,
  ⟨rfl, by decide⟩,
  ⟨rfl, 4, _, rfl, ⟨okg 41 _ rfl, gw_48 _, gw_598 _, ⟨by decide, by decide, by decide +kernel⟩, by decide⟩, gw_600 _, rfl, gw_6 _⟩,
  ⟨rfl, rfl⟩, trivial⟩⟩
-- PartitionKernel$Partition.wake
set_option maxRecDepth 100000 in
theorem dc_30 : ∀ en ∈ cd_30, decode prog_7_method_9_code en.1 = .ok (en.2.1, en.2.2.1 - en.1) := by decide +kernel
set_option maxRecDepth 100000 in
set_option maxHeartbeats 4000000 in
theorem ok_30 (cA : Nat → ClassId) : mq_okm pg_cl (pg_tys cA) (pg_E cA) pg_Z pg_sw pg_mx pg_X 30 cd_30 := ⟨by decide +kernel, mq_ok_of dc_30 ⟨⟨rfl, by decide⟩,
  ⟨rfl, by decide⟩,
  ⟨rfl, trivial⟩,
  ⟨rfl, trivial⟩,
  ⟨rfl, _, _, _, _, okc_4 cA _, by decide, gw_215 _, trivial, ⟨rfl, rfl⟩⟩,
  ⟨rfl, by decide⟩,
  ⟨rfl, trivial⟩,
  ⟨rfl, trivial⟩,
  ⟨rfl, 1, _, rfl, ⟨okg 40 _ rfl, gw_48 _, gw_619 _, ⟨by decide, by decide, by decide +kernel⟩, by decide⟩, gw_621 _, rfl, gw_8 _⟩,
  ⟨rfl, by decide⟩,
  ⟨rfl, trivial⟩,
  ⟨rfl, by decide⟩,
  ⟨rfl, rfl⟩,
  ⟨rfl, trivial⟩,
  ⟨rfl, trivial⟩,
  ⟨rfl, by decide⟩,
  ⟨rfl, by decide⟩,
  ⟨rfl, by decide⟩,
  ⟨rfl, 4, _, rfl, ⟨okg 41 _ rfl, gw_48 _, gw_598 _, ⟨by decide, by decide, by decide +kernel⟩, by decide⟩, gw_600 _, rfl, gw_6 _⟩,
  ⟨rfl, by decide, by decide⟩,
  ⟨rfl, by decide⟩,
  ⟨rfl, rfl⟩, trivial⟩⟩
-- PartitionKernel$Partition.first
set_option maxRecDepth 100000 in
theorem dc_31 : ∀ en ∈ cd_31, decode prog_7_method_10_code en.1 = .ok (en.2.1, en.2.2.1 - en.1) := by decide +kernel
set_option maxRecDepth 100000 in
set_option maxHeartbeats 4000000 in
theorem ok_31 (cA : Nat → ClassId) : mq_okm pg_cl (pg_tys cA) (pg_E cA) pg_Z pg_sw pg_mx pg_X 31 cd_31 := ⟨by decide +kernel, mq_ok_of dc_31 ⟨⟨rfl, trivial⟩,
  ⟨rfl, by decide⟩,
  ⟨rfl, by decide⟩,
  ⟨rfl, by decide⟩,
  ⟨rfl, trivial⟩,
  ⟨rfl, trivial⟩,
  ⟨rfl, _, _, _, _, okc_4 cA _, by decide, gw_215 _, trivial, ⟨rfl, rfl⟩⟩,
  ⟨rfl, by decide⟩,
  ⟨rfl, trivial⟩,
  ⟨rfl, _, _, _, _, okc_4 cA _, by decide, gw_210 _, trivial, ⟨rfl, Or.inr ⟨_, rfl⟩⟩⟩,
  ⟨rfl, trivial⟩,
  ⟨rfl, trivial⟩,
  ⟨rfl, by decide⟩,
  ⟨rfl, trivial⟩,
  ⟨rfl, _, _, _, _, okc_5 cA _, by decide, gw_163 _, trivial, ⟨rfl, rfl⟩⟩,
  ⟨rfl, trivial⟩,
  ⟨rfl, by decide⟩,
  ⟨rfl, trivial⟩,
  ⟨rfl, _, _, _, _, okc_5 cA _, by decide, gw_172 _, trivial, ⟨rfl, rfl⟩⟩,
  ⟨rfl, trivial⟩,
  ⟨rfl, by decide⟩,
  ⟨rfl, trivial⟩,
  ⟨rfl, trivial⟩,
  ⟨rfl, 1, _, rfl, ⟨okg 48 _ rfl, gw_50 _, gw_357 _, ⟨by decide, by decide, by decide +kernel⟩, by decide⟩, gw_358 _, rfl, gw_359 _⟩,
  ⟨rfl, by decide⟩,
  ⟨rfl, trivial⟩,
  ⟨rfl, by decide⟩,
  ⟨rfl, by decide, by decide⟩,
  ⟨rfl, by decide⟩,
  ⟨rfl, trivial⟩,
  ⟨rfl, _, rfl, Or.inl ⟨_, rfl⟩⟩, trivial⟩⟩
-- PartitionKernel$Partition.awaitRelease
set_option maxRecDepth 100000 in
theorem dc_32 : ∀ en ∈ cd_32, decode prog_7_method_11_code en.1 = .ok (en.2.1, en.2.2.1 - en.1) := by decide +kernel
set_option maxRecDepth 100000 in
set_option maxHeartbeats 4000000 in
theorem ok_32 (cA : Nat → ClassId) : mq_okm pg_cl (pg_tys cA) (pg_E cA) pg_Z pg_sw pg_mx pg_X 32 cd_32 := ⟨by decide +kernel, mq_ok_of dc_32 ⟨⟨rfl, trivial⟩,
  ⟨rfl, _, _, _, _, okc_5 cA _, by decide, gw_156 _, trivial, ⟨rfl, rfl⟩⟩,
  ⟨rfl, by decide⟩,
  ⟨rfl, by decide⟩,
  ⟨rfl, Or.inr rfl⟩,
  ⟨rfl, trivial⟩,
  ⟨rfl, trivial⟩,
  ⟨rfl, _, _, _, _, okc_5 cA _, by decide, gw_168 _, trivial, ⟨rfl, rfl⟩⟩,
  ⟨rfl, trivial⟩,
  ⟨rfl, _, _, _, _, okc_5 cA _, by decide, gw_156 _, trivial, ⟨rfl, rfl⟩⟩,
  ⟨rfl, trivial⟩,
  ⟨rfl, 1, _, rfl, ⟨okg 46 _ rfl, gw_50 _, gw_594 _, ⟨by decide, by decide, by decide +kernel⟩, by decide⟩, gw_595 _, rfl, gw_596 _⟩,
  ⟨rfl, trivial⟩,
  ⟨rfl, trivial⟩,
  ⟨rfl, by decide⟩,
  ⟨rfl, trivial⟩,
  ⟨rfl, _, _, _, _, okc_5 cA _, by decide, gw_168 _, trivial, ⟨rfl, rfl⟩⟩,
  ⟨rfl, by decide⟩,
  ⟨rfl, 4, _, rfl, ⟨okg 41 _ rfl, gw_48 _, gw_598 _, ⟨by decide, by decide, by decide +kernel⟩, by decide⟩, gw_600 _, rfl, gw_6 _⟩,
  ⟨rfl, by decide⟩,
  ⟨rfl, Or.inr rfl⟩, trivial⟩⟩
-- PartitionKernel$Partition.awaitSpan
set_option maxRecDepth 100000 in
theorem dc_33 : ∀ en ∈ cd_33, decode prog_7_method_12_code en.1 = .ok (en.2.1, en.2.2.1 - en.1) := by decide +kernel
set_option maxRecDepth 100000 in
set_option maxHeartbeats 4000000 in
theorem ok_33 (cA : Nat → ClassId) : mq_okm pg_cl (pg_tys cA) (pg_E cA) pg_Z pg_sw pg_mx pg_X 33 cd_33 := ⟨by decide +kernel, mq_ok_of dc_33 ⟨⟨rfl, trivial⟩,
  ⟨rfl, ⟨okg 88 _ rfl, gw_45 _, Or.inr ⟨_, pX_750⟩, ⟨by decide, by decide, by decide +kernel⟩, by decide⟩, gw_529 _⟩,
  ⟨rfl, by decide⟩,
  ⟨rfl, by decide⟩,
  ⟨rfl, Or.inr rfl⟩,
  ⟨rfl, trivial⟩,
  ⟨rfl, trivial⟩,
  ⟨rfl, by decide⟩,
  ⟨rfl, trivial⟩,
  ⟨rfl, trivial⟩,
  ⟨rfl, trivial⟩,
  ⟨rfl, by decide⟩,
  ⟨rfl, 4, _, rfl, ⟨okg 41 _ rfl, gw_48 _, gw_598 _, ⟨by decide, by decide, by decide +kernel⟩, by decide⟩, gw_600 _, rfl, gw_6 _⟩,
  ⟨rfl, by decide⟩,
  ⟨rfl, Or.inr rfl⟩, trivial⟩⟩
-- PartitionKernel$Partition.startDormant
set_option maxRecDepth 100000 in
theorem dc_34 : ∀ en ∈ cd_34, decode prog_7_method_13_code en.1 = .ok (en.2.1, en.2.2.1 - en.1) := by decide +kernel
set_option maxRecDepth 100000 in
set_option maxHeartbeats 4000000 in
theorem ok_34 (cA : Nat → ClassId) : mq_okm pg_cl (pg_tys cA) (pg_E cA) pg_Z pg_sw pg_mx pg_X 34 cd_34 := ⟨by decide +kernel, mq_ok_of dc_34 ⟨⟨rfl, trivial⟩,
  ⟨rfl, trivial⟩,
  ⟨rfl, 1, _, rfl, ⟨okg 24 _ rfl, gw_48 _, gw_755 _, ⟨by decide, by decide, by decide +kernel⟩, by decide⟩, gw_326 _, rfl, gw_327 _⟩,
  ⟨rfl, by decide⟩,
  ⟨rfl, trivial⟩,
  ⟨rfl, by decide⟩,
  ⟨rfl, trivial⟩,
  ⟨rfl, _, _, _, _, okc_5 cA _, by decide, gw_163 _, trivial, ⟨rfl, rfl⟩⟩,
  ⟨rfl, by decide⟩,
  ⟨rfl, by decide⟩,
  ⟨rfl, Or.inr rfl⟩,
  ⟨rfl, trivial⟩,
  ⟨rfl, trivial⟩,
  ⟨rfl, trivial⟩,
  ⟨rfl, 2, _, rfl, ⟨okg 27 _ rfl, gw_48 _, gw_586 _, ⟨by decide, by decide, by decide +kernel⟩, by decide⟩, gw_587 _, rfl, gw_588 _⟩,
  ⟨rfl, by decide⟩,
  ⟨rfl, Or.inr rfl⟩, trivial⟩⟩
-- PartitionKernel$Partition.setPriority
set_option maxRecDepth 100000 in
theorem dc_35 : ∀ en ∈ cd_35, decode prog_7_method_14_code en.1 = .ok (en.2.1, en.2.2.1 - en.1) := by decide +kernel
set_option maxRecDepth 100000 in
set_option maxHeartbeats 4000000 in
theorem ok_35 (cA : Nat → ClassId) : mq_okm pg_cl (pg_tys cA) (pg_E cA) pg_Z pg_sw pg_mx pg_X 35 cd_35 := ⟨by decide +kernel, mq_ok_of dc_35 ⟨⟨rfl, trivial⟩,
  ⟨rfl, trivial⟩,
  ⟨rfl, 1, _, rfl, ⟨okg 24 _ rfl, gw_48 _, gw_755 _, ⟨by decide, by decide, by decide +kernel⟩, by decide⟩, gw_326 _, rfl, gw_327 _⟩,
  ⟨rfl, by decide⟩,
  ⟨rfl, trivial⟩,
  ⟨rfl, by decide⟩,
  ⟨rfl, trivial⟩,
  ⟨rfl, ⟨okg 87 _ rfl, gw_45 _, Or.inr ⟨_, pX_760⟩, ⟨by decide, by decide, by decide +kernel⟩, by decide⟩, gw_526 _⟩,
  ⟨rfl, by decide⟩,
  ⟨rfl, by decide⟩,
  ⟨rfl, Or.inr rfl⟩,
  ⟨rfl, trivial⟩,
  ⟨rfl, trivial⟩,
  ⟨rfl, _, _, _, _, okc_5 cA _, by decide, gw_154 _, Or.inl rfl, ⟨rfl, rfl⟩⟩,
  ⟨rfl, by decide⟩,
  ⟨rfl, Or.inr rfl⟩, trivial⟩⟩
-- PartitionKernel$Partition.takeSemaphore
set_option maxRecDepth 100000 in
theorem dc_36 : ∀ en ∈ cd_36, decode prog_7_method_15_code en.1 = .ok (en.2.1, en.2.2.1 - en.1) := by decide +kernel
set_option maxRecDepth 100000 in
set_option maxHeartbeats 4000000 in
theorem ok_36 (cA : Nat → ClassId) : mq_okm pg_cl (pg_tys cA) (pg_E cA) pg_Z pg_sw pg_mx pg_X 36 cd_36 := ⟨by decide +kernel, mq_ok_of dc_36 ⟨⟨rfl, trivial⟩,
  ⟨rfl, ⟨okg 39 _ rfl, gw_48 _, Or.inl (gw_361 _), ⟨by decide, by decide, by decide +kernel⟩, by decide⟩, gw_362 _⟩,
  ⟨rfl, by decide⟩,
  ⟨rfl, by decide⟩,
  ⟨rfl, Or.inr rfl⟩,
  ⟨rfl, trivial⟩,
  ⟨rfl, _, _, _, _, okc_4 cA _, by decide, gw_212 _, trivial, ⟨rfl, Or.inr ⟨_, rfl⟩⟩⟩,
  ⟨rfl, trivial⟩,
  ⟨rfl, trivial⟩,
  ⟨rfl, by decide⟩,
  ⟨rfl, trivial⟩,
  ⟨rfl, _, _, _, _, okc_4 cA _, by decide, gw_212 _, trivial, ⟨rfl, Or.inr ⟨_, rfl⟩⟩⟩,
  ⟨rfl, trivial⟩,
  ⟨rfl, trivial⟩,
  ⟨rfl, trivial⟩,
  ⟨rfl, by decide⟩,
  ⟨rfl, trivial⟩,
  ⟨rfl, trivial⟩,
  ⟨rfl, by decide⟩,
  ⟨rfl, trivial⟩,
  ⟨rfl, trivial⟩,
  ⟨rfl, by decide⟩,
  ⟨rfl, by decide⟩,
  ⟨rfl, trivial⟩,
  ⟨rfl, 4, _, rfl, ⟨okg 41 _ rfl, gw_48 _, gw_598 _, ⟨by decide, by decide, by decide +kernel⟩, by decide⟩, gw_600 _, rfl, gw_6 _⟩,
  ⟨rfl, by decide⟩,
  ⟨rfl, Or.inr rfl⟩, trivial⟩⟩
-- PartitionKernel$Partition.giveSemaphore
set_option maxRecDepth 100000 in
theorem dc_37 : ∀ en ∈ cd_37, decode prog_7_method_16_code en.1 = .ok (en.2.1, en.2.2.1 - en.1) := by decide +kernel
set_option maxRecDepth 100000 in
set_option maxHeartbeats 4000000 in
theorem ok_37 (cA : Nat → ClassId) : mq_okm pg_cl (pg_tys cA) (pg_E cA) pg_Z pg_sw pg_mx pg_X 37 cd_37 := ⟨by decide +kernel, mq_ok_of dc_37 ⟨⟨rfl, trivial⟩,
  ⟨rfl, ⟨okg 39 _ rfl, gw_48 _, Or.inl (gw_361 _), ⟨by decide, by decide, by decide +kernel⟩, by decide⟩, gw_362 _⟩,
  ⟨rfl, by decide⟩,
  ⟨rfl, by decide⟩,
  ⟨rfl, Or.inr rfl⟩,
  ⟨rfl, trivial⟩,
  ⟨rfl, by decide⟩,
  ⟨rfl, trivial⟩,
  ⟨rfl, 2, _, rfl, ⟨okg 31 _ rfl, gw_48 _, gw_353 _, ⟨by decide, by decide, by decide +kernel⟩, by decide⟩, gw_354 _, rfl, gw_355 _⟩,
  ⟨rfl, by decide⟩,
  ⟨rfl, trivial⟩,
  ⟨rfl, by decide⟩,
  ⟨rfl, trivial⟩,
  ⟨rfl, trivial⟩,
  ⟨rfl, by decide⟩,
  ⟨rfl, by decide⟩,
  ⟨rfl, by decide⟩,
  ⟨rfl, 4, _, rfl, ⟨okg 41 _ rfl, gw_48 _, gw_598 _, ⟨by decide, by decide, by decide +kernel⟩, by decide⟩, gw_600 _, rfl, gw_6 _⟩,
  ⟨rfl, by decide⟩,
  ⟨rfl, Or.inr rfl⟩,
  ⟨rfl, trivial⟩,
  ⟨rfl, _, _, _, _, okc_4 cA _, by decide, gw_212 _, trivial, ⟨rfl, Or.inr ⟨_, rfl⟩⟩⟩,
  ⟨rfl, trivial⟩,
  ⟨rfl, trivial⟩,
  ⟨rfl, by decide⟩,
  ⟨rfl, by decide⟩,
  ⟨rfl, by decide⟩,
  ⟨rfl, Or.inr rfl⟩,
  ⟨rfl, trivial⟩,
  ⟨rfl, _, _, _, _, okc_4 cA _, by decide, gw_212 _, trivial, ⟨rfl, Or.inr ⟨_, rfl⟩⟩⟩,
  ⟨rfl, trivial⟩,
  ⟨rfl, trivial⟩,
  ⟨rfl, trivial⟩,
  ⟨rfl, by decide⟩,
  ⟨rfl, trivial⟩,
  ⟨rfl, trivial⟩,
  ⟨rfl, by decide⟩,
  ⟨rfl, Or.inr rfl⟩, trivial⟩⟩
-- PartitionKernel$Partition.firstReadyNumber
set_option maxRecDepth 100000 in
theorem dc_38 : ∀ en ∈ cd_38, decode prog_7_method_17_code en.1 = .ok (en.2.1, en.2.2.1 - en.1) := by decide +kernel
set_option maxRecDepth 100000 in
set_option maxHeartbeats 4000000 in
theorem ok_38 (cA : Nat → ClassId) : mq_okm pg_cl (pg_tys cA) (pg_E cA) pg_Z pg_sw pg_mx pg_X 38 cd_38 := ⟨by decide +kernel, mq_ok_of dc_38 ⟨⟨rfl, trivial⟩,
  ⟨rfl, by decide⟩,
  ⟨rfl, by decide⟩,
  ⟨rfl, 2, _, rfl, ⟨okg 31 _ rfl, gw_48 _, gw_353 _, ⟨by decide, by decide, by decide +kernel⟩, by decide⟩, gw_354 _, rfl, gw_355 _⟩,
  ⟨rfl, by decide⟩,
  ⟨rfl, trivial⟩,
  ⟨rfl, by decide⟩,
  ⟨rfl, by decide⟩,
  ⟨rfl, by decide⟩,
  ⟨rfl, trivial⟩,
  ⟨rfl, _, _, _, _, okc_5 cA _, by decide, gw_149 _, trivial, ⟨rfl, rfl⟩⟩,
  ⟨rfl, Or.inr rfl⟩, trivial⟩⟩
-- PartitionKernel$Partition.isSemaphore
set_option maxRecDepth 100000 in
theorem dc_39 : ∀ en ∈ cd_39, decode prog_7_method_18_code en.1 = .ok (en.2.1, en.2.2.1 - en.1) := by decide +kernel
set_option maxRecDepth 100000 in
set_option maxHeartbeats 4000000 in
theorem ok_39 (cA : Nat → ClassId) : mq_okm pg_cl (pg_tys cA) (pg_E cA) pg_Z pg_sw pg_mx pg_X 39 cd_39 := ⟨by decide +kernel, mq_ok_of dc_39 ⟨⟨rfl, trivial⟩,
  ⟨rfl, by decide⟩,
  ⟨rfl, trivial⟩,
  ⟨rfl, by decide⟩,
  ⟨rfl, by decide⟩,
  ⟨rfl, by decide⟩,
  ⟨rfl, by decide⟩,
  ⟨rfl, by decide⟩,
  ⟨rfl, Or.inl ⟨rfl, rfl⟩⟩, trivial⟩⟩
-- PartitionKernel$Partition.firstSleeper
set_option maxRecDepth 100000 in
theorem dc_40 : ∀ en ∈ cd_40, decode prog_7_method_19_code en.1 = .ok (en.2.1, en.2.2.1 - en.1) := by decide +kernel
set_option maxRecDepth 100000 in
set_option maxHeartbeats 4000000 in
theorem ok_40 (cA : Nat → ClassId) : mq_okm pg_cl (pg_tys cA) (pg_E cA) pg_Z pg_sw pg_mx pg_X 40 cd_40 := ⟨by decide +kernel, mq_ok_of dc_40 ⟨⟨rfl, trivial⟩,
  ⟨rfl, by decide⟩,
  ⟨rfl, by decide⟩,
  ⟨rfl, by decide⟩,
  ⟨rfl, trivial⟩,
  ⟨rfl, trivial⟩,
  ⟨rfl, _, _, _, _, okc_4 cA _, by decide, gw_215 _, trivial, ⟨rfl, rfl⟩⟩,
  ⟨rfl, by decide⟩,
  ⟨rfl, trivial⟩,
  ⟨rfl, _, _, _, _, okc_4 cA _, by decide, gw_210 _, trivial, ⟨rfl, Or.inr ⟨_, rfl⟩⟩⟩,
  ⟨rfl, trivial⟩,
  ⟨rfl, trivial⟩,
  ⟨rfl, by decide⟩,
  ⟨rfl, trivial⟩,
  ⟨rfl, _, _, _, _, okc_5 cA _, by decide, gw_163 _, trivial, ⟨rfl, rfl⟩⟩,
  ⟨rfl, by decide⟩,
  ⟨rfl, by decide⟩,
  ⟨rfl, trivial⟩,
  ⟨rfl, _, _, _, _, okc_5 cA _, by decide, gw_170 _, trivial, ⟨rfl, rfl⟩⟩,
  ⟨rfl, trivial⟩,
  ⟨rfl, by decide⟩,
  ⟨rfl, by decide⟩,
  ⟨rfl, by decide⟩,
  ⟨rfl, by decide⟩,
  ⟨rfl, by decide⟩,
  ⟨rfl, trivial⟩,
  ⟨rfl, by decide⟩,
  ⟨rfl, trivial⟩,
  ⟨rfl, by decide⟩,
  ⟨rfl, trivial⟩,
  ⟨rfl, _, _, _, _, okc_5 cA _, by decide, gw_170 _, trivial, ⟨rfl, rfl⟩⟩,
  ⟨rfl, trivial⟩,
  ⟨rfl, _, _, _, _, okc_5 cA _, by decide, gw_170 _, trivial, ⟨rfl, rfl⟩⟩,
  ⟨rfl, by decide⟩,
  ⟨rfl, trivial⟩,
  ⟨rfl, by decide⟩,
  ⟨rfl, by decide, by decide⟩,
  ⟨rfl, by decide⟩,
  ⟨rfl, trivial⟩,
  ⟨rfl, _, rfl, Or.inl ⟨_, rfl⟩⟩, trivial⟩⟩
