/-! Rows of methods, by program. -/
-- PartitionKernel$Machine.store
set_option maxRecDepth 100000 in
theorem dc_56 : ∀ en ∈ cd_56, decode prog_5_method_8_code en.1 = .ok (en.2.1, en.2.2.1 - en.1) := by decide +kernel
set_option maxRecDepth 100000 in
set_option maxHeartbeats 4000000 in
theorem ok_56 (cA : Nat → ClassId) : mq_okm pg_cl (pg_tys cA) (pg_E cA) pg_Z pg_sw pg_mx pg_X 56 cd_56 := ⟨by decide +kernel, by decide +kernel, mq_ok_of dc_56 ⟨⟨rfl, trivial⟩,
  ⟨rfl, ⟨okg 61 _ gc_61, gw_60 _, Or.inl (gw_673 _), ⟨by decide +kernel, by decide +kernel, by decide +kernel⟩, by decide +kernel⟩, gw_674 _⟩,
  ⟨rfl, (by decide : 3 < 5)⟩,
  ⟨rfl, trivial⟩,
  ⟨rfl, (by decide : Int32.ofInt 2 = 2)⟩,
  ⟨rfl, (by decide : ((7 : Nat) : Int) + 5 = ((12 : Nat) : Int))⟩,
  ⟨rfl, (by decide : Int32.ofInt 0 = 0)⟩,
  ⟨rfl, Or.inr rfl⟩,
  ⟨rfl, trivial⟩,
  ⟨rfl, trivial⟩,
  ⟨rfl, ⟨okg 63 _ gc_63, gw_60 _, Or.inl (gw_676 _), ⟨by decide +kernel, by decide +kernel, by decide +kernel⟩, by decide +kernel⟩, gw_677 _⟩,
  ⟨rfl, trivial⟩,
  ⟨rfl, ⟨okg 67 _ gc_67, gw_60 _, Or.inl (gw_714 _), ⟨by decide +kernel, by decide +kernel, by decide +kernel⟩, by decide +kernel⟩, gw_715 _⟩,
  ⟨rfl, trivial⟩,
  ⟨rfl, (by decide : 4 < 5)⟩,
  ⟨rfl, trivial⟩,
  ⟨rfl, (by decide : Int32.ofInt 1 = 1)⟩,
  ⟨rfl, trivial⟩,
  ⟨rfl, trivial⟩,
  ⟨rfl, ⟨okg 16 _ gc_16, gw_49 _, Or.inl (gw_655 _), ⟨by decide +kernel, by decide +kernel, by decide +kernel⟩, by decide +kernel⟩, gw_315 _⟩,
  ⟨rfl, (by decide : ((32 : Nat) : Int) + 5 = ((37 : Nat) : Int))⟩,
  ⟨rfl, (by decide : Int32.ofInt 1 = 1)⟩,
  ⟨rfl, Or.inr rfl⟩,
  ⟨rfl, trivial⟩,
  ⟨rfl, trivial⟩,
  ⟨rfl, (by decide : Int32.ofInt 1 = 1)⟩,
  ⟨rfl, trivial⟩,
  ⟨rfl, trivial⟩,
  ⟨rfl, trivial⟩,
  ⟨rfl, trivial⟩,
  ⟨rfl, ⟨okg 64 _ gc_64, gw_60 _, Or.inl (gw_686 _), ⟨by decide +kernel, by decide +kernel, by decide +kernel⟩, by decide +kernel⟩, gw_687 _⟩,
  ⟨rfl, 3, _, rfl, ⟨okg 20 _ gc_20, gw_49 _, gw_717 _, ⟨by decide +kernel, by decide +kernel, by decide +kernel⟩, by decide +kernel⟩, gw_718 _, rfl, gw_719 _⟩,
  ⟨rfl, trivial⟩,
  ⟨rfl, trivial⟩,
  ⟨rfl, _, _, _, _, okc_5 cA _, (by decide : 6 < 14), gw_159 _, trivial, ⟨rfl, rfl⟩⟩,
  ⟨rfl, (by decide : Int32.ofInt 4 = 4)⟩,
  ⟨rfl, trivial⟩,
  ⟨rfl, _, _, _, _, okc_5 cA _, (by decide : 6 < 14), gw_159 _, Or.inl rfl, ⟨rfl, rfl⟩⟩,
  ⟨rfl, (by decide : Int32.ofInt (-1) = (-1))⟩,
  ⟨rfl, Or.inr rfl⟩, trivial⟩⟩
-- PartitionKernel$Machine.reckonWithImmediate
set_option maxRecDepth 100000 in
theorem dc_57 : ∀ en ∈ cd_57, decode prog_5_method_9_code en.1 = .ok (en.2.1, en.2.2.1 - en.1) := by decide +kernel
set_option maxRecDepth 100000 in
set_option maxHeartbeats 4000000 in
theorem ok_57 (cA : Nat → ClassId) : mq_okm pg_cl (pg_tys cA) (pg_E cA) pg_Z pg_sw pg_mx pg_X 57 cd_57 := ⟨by decide +kernel, by decide +kernel, mq_ok_of dc_57 ⟨⟨rfl, trivial⟩,
  ⟨rfl, ⟨okg 61 _ gc_61, gw_60 _, Or.inl (gw_673 _), ⟨by decide +kernel, by decide +kernel, by decide +kernel⟩, by decide +kernel⟩, gw_674 _⟩,
  ⟨rfl, (by decide : 2 < 5)⟩,
  ⟨rfl, trivial⟩,
  ⟨rfl, (by decide : Int32.ofInt 1 = 1)⟩,
  ⟨rfl, (by decide : ((7 : Nat) : Int) + 8 = ((15 : Nat) : Int))⟩,
  ⟨rfl, trivial⟩,
  ⟨rfl, (by decide : Int32.ofInt 5 = 5)⟩,
  ⟨rfl, (by decide : ((12 : Nat) : Int) + 7 = ((19 : Nat) : Int))⟩,
  ⟨rfl, (by decide : Int32.ofInt 1 = 1)⟩,
  ⟨rfl, (by decide : ((16 : Nat) : Int) + 4 = ((20 : Nat) : Int))⟩,
  ⟨rfl, (by decide : Int32.ofInt 0 = 0)⟩,
  ⟨rfl, (by decide : 3 < 5)⟩,
  ⟨rfl, trivial⟩,
  ⟨rfl, (by decide : Int32.ofInt 5 = 5)⟩,
  ⟨rfl, (by decide : ((23 : Nat) : Int) + 16 = ((39 : Nat) : Int))⟩,
  ⟨rfl, trivial⟩,
  ⟨rfl, ⟨okg 62 _ gc_62, gw_60 _, Or.inl (gw_725 _), ⟨by decide +kernel, by decide +kernel, by decide +kernel⟩, by decide +kernel⟩, gw_726 _⟩,
  ⟨rfl, (by decide : (Int8.ofInt 32).toInt32 = 32)⟩,
  ⟨rfl, (by decide : ((32 : Nat) : Int) + 7 = ((39 : Nat) : Int))⟩,
  ⟨rfl, (by decide : Int32.ofInt 1 = 1)⟩,
  ⟨rfl, (by decide : ((36 : Nat) : Int) + 4 = ((40 : Nat) : Int))⟩,
  ⟨rfl, (by decide : Int32.ofInt 0 = 0)⟩,
  ⟨rfl, (by decide : 4 < 5)⟩,
  ⟨rfl, trivial⟩,
  ⟨rfl, (by decide : ((43 : Nat) : Int) + 17 = ((60 : Nat) : Int))⟩,
  ⟨rfl, trivial⟩,
  ⟨rfl, ⟨okg 62 _ gc_62, gw_60 _, Or.inl (gw_725 _), ⟨by decide +kernel, by decide +kernel, by decide +kernel⟩, by decide +kernel⟩, gw_726 _⟩,
  ⟨rfl, (by decide : ((50 : Nat) : Int) + 10 = ((60 : Nat) : Int))⟩,
  ⟨rfl, trivial⟩,
  ⟨rfl, (by decide : ((55 : Nat) : Int) + 5 = ((60 : Nat) : Int))⟩,
  ⟨rfl, (by decide : Int32.ofInt 0 = 0)⟩,
  ⟨rfl, Or.inr rfl⟩,
  ⟨rfl, trivial⟩,
  ⟨rfl, trivial⟩,
  ⟨rfl, trivial⟩,
  ⟨rfl, trivial⟩,
  ⟨rfl, trivial⟩,
  ⟨rfl, trivial⟩,
  ⟨rfl, ⟨okg 63 _ gc_63, gw_60 _, Or.inl (gw_676 _), ⟨by decide +kernel, by decide +kernel, by decide +kernel⟩, by decide +kernel⟩, gw_677 _⟩,
  ⟨rfl, trivial⟩,
  ⟨rfl, ⟨okg 65 _ gc_65, gw_60 _, Or.inl (gw_680 _), ⟨by decide +kernel, by decide +kernel, by decide +kernel⟩, by decide +kernel⟩, gw_681 _⟩,
  ⟨rfl, ⟨okg 59 _ gc_59, gw_60 _, Or.inl (gw_728 _), ⟨by decide +kernel, by decide +kernel, by decide +kernel⟩, by decide +kernel⟩, gw_729 _⟩,
  ⟨rfl, trivial⟩,
  ⟨rfl, _, _, _, _, okc_5 cA _, (by decide : 6 < 14), gw_159 _, trivial, ⟨rfl, rfl⟩⟩,
  ⟨rfl, (by decide : Int32.ofInt 4 = 4)⟩,
  ⟨rfl, trivial⟩,
  ⟨rfl, ⟨okg 51 _ gc_51, gw_60 _, Or.inl (gw_660 _), ⟨by decide +kernel, by decide +kernel, by decide +kernel⟩, by decide +kernel⟩, gw_661 _⟩,
  ⟨rfl, Or.inr rfl⟩, trivial⟩⟩
-- PartitionKernel$Machine.reckonWithRegister
set_option maxRecDepth 100000 in
theorem dc_58 : ∀ en ∈ cd_58, decode prog_5_method_10_code en.1 = .ok (en.2.1, en.2.2.1 - en.1) := by decide +kernel
set_option maxRecDepth 100000 in
set_option maxHeartbeats 4000000 in
theorem ok_58 (cA : Nat → ClassId) : mq_okm pg_cl (pg_tys cA) (pg_E cA) pg_Z pg_sw pg_mx pg_X 58 cd_58 := ⟨by decide +kernel, by decide +kernel, mq_ok_of dc_58 ⟨⟨rfl, trivial⟩,
  ⟨rfl, ⟨okg 61 _ gc_61, gw_60 _, Or.inl (gw_673 _), ⟨by decide +kernel, by decide +kernel, by decide +kernel⟩, by decide +kernel⟩, gw_674 _⟩,
  ⟨rfl, (by decide : 2 < 4)⟩,
  ⟨rfl, trivial⟩,
  ⟨rfl, (by decide : ((6 : Nat) : Int) + 8 = ((14 : Nat) : Int))⟩,
  ⟨rfl, trivial⟩,
  ⟨rfl, (by decide : Int32.ofInt 5 = 5)⟩,
  ⟨rfl, (by decide : ((11 : Nat) : Int) + 16 = ((27 : Nat) : Int))⟩,
  ⟨rfl, trivial⟩,
  ⟨rfl, ⟨okg 62 _ gc_62, gw_60 _, Or.inl (gw_725 _), ⟨by decide +kernel, by decide +kernel, by decide +kernel⟩, by decide +kernel⟩, gw_726 _⟩,
  ⟨rfl, (by decide : (Int8.ofInt 32).toInt32 = 32)⟩,
  ⟨rfl, (by decide : ((20 : Nat) : Int) + 7 = ((27 : Nat) : Int))⟩,
  ⟨rfl, (by decide : Int32.ofInt 1 = 1)⟩,
  ⟨rfl, (by decide : ((24 : Nat) : Int) + 4 = ((28 : Nat) : Int))⟩,
  ⟨rfl, (by decide : Int32.ofInt 0 = 0)⟩,
  ⟨rfl, (by decide : 3 < 4)⟩,
  ⟨rfl, trivial⟩,
  ⟨rfl, ⟨okg 62 _ gc_62, gw_60 _, Or.inl (gw_725 _), ⟨by decide +kernel, by decide +kernel, by decide +kernel⟩, by decide +kernel⟩, gw_726 _⟩,
  ⟨rfl, (by decide : ((33 : Nat) : Int) + 9 = ((42 : Nat) : Int))⟩,
  ⟨rfl, trivial⟩,
  ⟨rfl, (by decide : ((37 : Nat) : Int) + 5 = ((42 : Nat) : Int))⟩,
  ⟨rfl, (by decide : Int32.ofInt 0 = 0)⟩,
  ⟨rfl, Or.inr rfl⟩,
  ⟨rfl, trivial⟩,
  ⟨rfl, trivial⟩,
  ⟨rfl, trivial⟩,
  ⟨rfl, trivial⟩,
  ⟨rfl, trivial⟩,
  ⟨rfl, trivial⟩,
  ⟨rfl, ⟨okg 63 _ gc_63, gw_60 _, Or.inl (gw_676 _), ⟨by decide +kernel, by decide +kernel, by decide +kernel⟩, by decide +kernel⟩, gw_677 _⟩,
  ⟨rfl, trivial⟩,
  ⟨rfl, trivial⟩,
  ⟨rfl, ⟨okg 64 _ gc_64, gw_60 _, Or.inl (gw_686 _), ⟨by decide +kernel, by decide +kernel, by decide +kernel⟩, by decide +kernel⟩, gw_687 _⟩,
  ⟨rfl, ⟨okg 59 _ gc_59, gw_60 _, Or.inl (gw_728 _), ⟨by decide +kernel, by decide +kernel, by decide +kernel⟩, by decide +kernel⟩, gw_729 _⟩,
  ⟨rfl, trivial⟩,
  ⟨rfl, _, _, _, _, okc_5 cA _, (by decide : 6 < 14), gw_159 _, trivial, ⟨rfl, rfl⟩⟩,
  ⟨rfl, (by decide : Int32.ofInt 4 = 4)⟩,
  ⟨rfl, trivial⟩,
  ⟨rfl, ⟨okg 51 _ gc_51, gw_60 _, Or.inl (gw_660 _), ⟨by decide +kernel, by decide +kernel, by decide +kernel⟩, by decide +kernel⟩, gw_661 _⟩,
  ⟨rfl, Or.inr rfl⟩, trivial⟩⟩
-- PartitionKernel$Machine.reckon
set_option maxRecDepth 100000 in
theorem dc_59 : ∀ en ∈ cd_59, decode prog_5_method_11_code en.1 = .ok (en.2.1, en.2.2.1 - en.1) := by decide +kernel
set_option maxRecDepth 100000 in
set_option maxHeartbeats 4000000 in
theorem ok_59 (cA : Nat → ClassId) : mq_okm pg_cl (pg_tys cA) (pg_E cA) pg_Z pg_sw pg_mx pg_X 59 cd_59 := ⟨by decide +kernel, by decide +kernel, mq_ok_of dc_59 ⟨⟨rfl, trivial⟩,
  ⟨by decide, by decide, by decide, by decide, by decide, by decide, by decide, by decide, by decide, by decide, by decide, by decide, by decide, by decide, by decide, by decide, trivial⟩,
  ⟨rfl, trivial⟩,
  ⟨rfl, (by decide : ((45 : Nat) : Int) + 9 = ((54 : Nat) : Int))⟩,
  ⟨rfl, trivial⟩,
  ⟨rfl, trivial⟩,
  ⟨rfl, trivial⟩,
  ⟨rfl, (by decide : ((51 : Nat) : Int) + 6 = ((57 : Nat) : Int))⟩,
  ⟨rfl, trivial⟩,
  ⟨rfl, trivial⟩,
  ⟨rfl, trivial⟩,
  ⟨rfl, Or.inr rfl⟩,
  ⟨rfl, trivial⟩,
  ⟨rfl, trivial⟩,
  ⟨rfl, trivial⟩,
  ⟨rfl, Or.inr rfl⟩,
  ⟨rfl, trivial⟩,
  ⟨rfl, trivial⟩,
  ⟨rfl, (by decide : ((64 : Nat) : Int) + 7 = ((71 : Nat) : Int))⟩,
  ⟨rfl, (by decide : Int32.ofInt 1 = 1)⟩,
  ⟨rfl, (by decide : ((68 : Nat) : Int) + 4 = ((72 : Nat) : Int))⟩,
  ⟨rfl, (by decide : Int32.ofInt 0 = 0)⟩,
  ⟨rfl, Or.inr rfl⟩,
  ⟨rfl, trivial⟩,
  ⟨rfl, trivial⟩,
  ⟨rfl, ⟨okg 60 _ gc_60, gw_60 _, Or.inl (gw_689 _), ⟨by decide +kernel, by decide +kernel, by decide +kernel⟩, by decide +kernel⟩, gw_690 _⟩,
  ⟨rfl, (by decide : ((78 : Nat) : Int) + 7 = ((85 : Nat) : Int))⟩,
  ⟨rfl, (by decide : Int32.ofInt 1 = 1)⟩,
  ⟨rfl, (by decide : ((82 : Nat) : Int) + 4 = ((86 : Nat) : Int))⟩,
  ⟨rfl, (by decide : Int32.ofInt 0 = 0)⟩,
  ⟨rfl, Or.inr rfl⟩,
  ⟨rfl, trivial⟩,
  ⟨rfl, trivial⟩,
  ⟨rfl, trivial⟩,
  ⟨rfl, Or.inr rfl⟩,
  ⟨rfl, trivial⟩,
  ⟨rfl, (by decide : ((92 : Nat) : Int) + 9 = ((101 : Nat) : Int))⟩,
  ⟨rfl, trivial⟩,
  ⟨rfl, trivial⟩,
  ⟨rfl, trivial⟩,
  ⟨rfl, (by decide : ((98 : Nat) : Int) + 6 = ((104 : Nat) : Int))⟩,
  ⟨rfl, trivial⟩,
  ⟨rfl, trivial⟩,
  ⟨rfl, trivial⟩,
  ⟨rfl, Or.inr rfl⟩,
  ⟨rfl, trivial⟩,
  ⟨rfl, trivial⟩,
  ⟨rfl, trivial⟩,
  ⟨rfl, Or.inr rfl⟩,
  ⟨rfl, trivial⟩,
  ⟨rfl, trivial⟩,
  ⟨rfl, trivial⟩,
  ⟨rfl, Or.inr rfl⟩, trivial⟩⟩
-- PartitionKernel$Machine.isBelow
set_option maxRecDepth 100000 in
theorem dc_60 : ∀ en ∈ cd_60, decode prog_5_method_12_code en.1 = .ok (en.2.1, en.2.2.1 - en.1) := by decide +kernel
set_option maxRecDepth 100000 in
set_option maxHeartbeats 4000000 in
theorem ok_60 (cA : Nat → ClassId) : mq_okm pg_cl (pg_tys cA) (pg_E cA) pg_Z pg_sw pg_mx pg_X 60 cd_60 := ⟨by decide +kernel, by decide +kernel, mq_ok_of dc_60 ⟨⟨rfl, trivial⟩,
  ⟨rfl, gw_692 _⟩,
  ⟨rfl, trivial⟩,
  ⟨rfl, trivial⟩,
  ⟨rfl, gw_692 _⟩,
  ⟨rfl, trivial⟩,
  ⟨rfl, (by decide : ((8 : Nat) : Int) + 7 = ((15 : Nat) : Int))⟩,
  ⟨rfl, (by decide : Int32.ofInt 1 = 1)⟩,
  ⟨rfl, (by decide : ((12 : Nat) : Int) + 4 = ((16 : Nat) : Int))⟩,
  ⟨rfl, (by decide : Int32.ofInt 0 = 0)⟩,
  ⟨rfl, Or.inl ⟨rfl, rfl⟩⟩, trivial⟩⟩
-- PartitionKernel$Machine.f3
set_option maxRecDepth 100000 in
theorem dc_61 : ∀ en ∈ cd_61, decode prog_5_method_13_code en.1 = .ok (en.2.1, en.2.2.1 - en.1) := by decide +kernel
set_option maxRecDepth 100000 in
set_option maxHeartbeats 4000000 in
theorem ok_61 (cA : Nat → ClassId) : mq_okm pg_cl (pg_tys cA) (pg_E cA) pg_Z pg_sw pg_mx pg_X 61 cd_61 := ⟨by decide +kernel, by decide +kernel, mq_ok_of dc_61 ⟨⟨rfl, trivial⟩,
  ⟨rfl, (by decide : (Int8.ofInt 12).toInt32 = 12)⟩,
  ⟨rfl, trivial⟩,
  ⟨rfl, (by decide : (Int8.ofInt 7).toInt32 = 7)⟩,
  ⟨rfl, trivial⟩,
  ⟨rfl, Or.inr rfl⟩, trivial⟩⟩
-- PartitionKernel$Machine.f7
set_option maxRecDepth 100000 in
theorem dc_62 : ∀ en ∈ cd_62, decode prog_5_method_14_code en.1 = .ok (en.2.1, en.2.2.1 - en.1) := by decide +kernel
set_option maxRecDepth 100000 in
set_option maxHeartbeats 4000000 in
theorem ok_62 (cA : Nat → ClassId) : mq_okm pg_cl (pg_tys cA) (pg_E cA) pg_Z pg_sw pg_mx pg_X 62 cd_62 := ⟨by decide +kernel, by decide +kernel, mq_ok_of dc_62 ⟨⟨rfl, trivial⟩,
  ⟨rfl, (by decide : (Int8.ofInt 25).toInt32 = 25)⟩,
  ⟨rfl, trivial⟩,
  ⟨rfl, Or.inr rfl⟩, trivial⟩⟩
-- PartitionKernel$Machine.left
set_option maxRecDepth 100000 in
theorem dc_63 : ∀ en ∈ cd_63, decode prog_5_method_15_code en.1 = .ok (en.2.1, en.2.2.1 - en.1) := by decide +kernel
set_option maxRecDepth 100000 in
set_option maxHeartbeats 4000000 in
theorem ok_63 (cA : Nat → ClassId) : mq_okm pg_cl (pg_tys cA) (pg_E cA) pg_Z pg_sw pg_mx pg_X 63 cd_63 := ⟨by decide +kernel, by decide +kernel, mq_ok_of dc_63 ⟨⟨rfl, trivial⟩,
  ⟨rfl, trivial⟩,
  ⟨rfl, (by decide : (Int8.ofInt 15).toInt32 = 15)⟩,
  ⟨rfl, trivial⟩,
  ⟨rfl, (by decide : (Int8.ofInt 31).toInt32 = 31)⟩,
  ⟨rfl, trivial⟩,
  ⟨rfl, 1, _, rfl, ⟨okg 43 _ gc_43, gw_50 _, gw_679 _, ⟨by decide +kernel, by decide +kernel, by decide +kernel⟩, by decide +kernel⟩, gw_330 _, rfl, gw_331 _⟩,
  ⟨rfl, Or.inr rfl⟩, trivial⟩⟩
-- PartitionKernel$Machine.right
set_option maxRecDepth 100000 in
theorem dc_64 : ∀ en ∈ cd_64, decode prog_5_method_16_code en.1 = .ok (en.2.1, en.2.2.1 - en.1) := by decide +kernel
set_option maxRecDepth 100000 in
set_option maxHeartbeats 4000000 in
theorem ok_64 (cA : Nat → ClassId) : mq_okm pg_cl (pg_tys cA) (pg_E cA) pg_Z pg_sw pg_mx pg_X 64 cd_64 := ⟨by decide +kernel, by decide +kernel, mq_ok_of dc_64 ⟨⟨rfl, trivial⟩,
  ⟨rfl, trivial⟩,
  ⟨rfl, (by decide : (Int8.ofInt 20).toInt32 = 20)⟩,
  ⟨rfl, trivial⟩,
  ⟨rfl, (by decide : (Int8.ofInt 31).toInt32 = 31)⟩,
  ⟨rfl, trivial⟩,
  ⟨rfl, 1, _, rfl, ⟨okg 43 _ gc_43, gw_50 _, gw_679 _, ⟨by decide +kernel, by decide +kernel, by decide +kernel⟩, by decide +kernel⟩, gw_330 _, rfl, gw_331 _⟩,
  ⟨rfl, Or.inr rfl⟩, trivial⟩⟩
-- PartitionKernel$Machine.immediate
set_option maxRecDepth 100000 in
theorem dc_65 : ∀ en ∈ cd_65, decode prog_5_method_17_code en.1 = .ok (en.2.1, en.2.2.1 - en.1) := by decide +kernel
set_option maxRecDepth 100000 in
set_option maxHeartbeats 4000000 in
theorem ok_65 (cA : Nat → ClassId) : mq_okm pg_cl (pg_tys cA) (pg_E cA) pg_Z pg_sw pg_mx pg_X 65 cd_65 := ⟨by decide +kernel, by decide +kernel, mq_ok_of dc_65 ⟨⟨rfl, trivial⟩,
  ⟨rfl, (by decide : (Int8.ofInt 20).toInt32 = 20)⟩,
  ⟨rfl, trivial⟩,
  ⟨rfl, Or.inr rfl⟩, trivial⟩⟩
-- PartitionKernel$Machine.upper
set_option maxRecDepth 100000 in
theorem dc_66 : ∀ en ∈ cd_66, decode prog_5_method_18_code en.1 = .ok (en.2.1, en.2.2.1 - en.1) := by decide +kernel
set_option maxRecDepth 100000 in
set_option maxHeartbeats 4000000 in
theorem ok_66 (cA : Nat → ClassId) : mq_okm pg_cl (pg_tys cA) (pg_E cA) pg_Z pg_sw pg_mx pg_X 66 cd_66 := ⟨by decide +kernel, by decide +kernel, mq_ok_of dc_66 ⟨⟨rfl, trivial⟩,
  ⟨rfl, (by decide : (Int16.ofInt (-4096)).toInt32 = (-4096))⟩,
  ⟨rfl, trivial⟩,
  ⟨rfl, Or.inr rfl⟩, trivial⟩⟩
-- PartitionKernel$Machine.storeOffset
set_option maxRecDepth 100000 in
theorem dc_67 : ∀ en ∈ cd_67, decode prog_5_method_19_code en.1 = .ok (en.2.1, en.2.2.1 - en.1) := by decide +kernel
set_option maxRecDepth 100000 in
set_option maxHeartbeats 4000000 in
theorem ok_67 (cA : Nat → ClassId) : mq_okm pg_cl (pg_tys cA) (pg_E cA) pg_Z pg_sw pg_mx pg_X 67 cd_67 := ⟨by decide +kernel, by decide +kernel, mq_ok_of dc_67 ⟨⟨rfl, trivial⟩,
  ⟨rfl, (by decide : (Int8.ofInt 25).toInt32 = 25)⟩,
  ⟨rfl, trivial⟩,
  ⟨rfl, (by decide : Int32.ofInt 5 = 5)⟩,
  ⟨rfl, trivial⟩,
  ⟨rfl, trivial⟩,
  ⟨rfl, (by decide : (Int8.ofInt 7).toInt32 = 7)⟩,
  ⟨rfl, trivial⟩,
  ⟨rfl, (by decide : (Int8.ofInt 31).toInt32 = 31)⟩,
  ⟨rfl, trivial⟩,
  ⟨rfl, trivial⟩,
  ⟨rfl, Or.inr rfl⟩, trivial⟩⟩
-- PartitionKernel$Machine.jumpOffset
set_option maxRecDepth 100000 in
theorem dc_68 : ∀ en ∈ cd_68, decode prog_5_method_20_code en.1 = .ok (en.2.1, en.2.2.1 - en.1) := by decide +kernel
set_option maxRecDepth 100000 in
set_option maxHeartbeats 4000000 in
theorem ok_68 (cA : Nat → ClassId) : mq_okm pg_cl (pg_tys cA) (pg_E cA) pg_Z pg_sw pg_mx pg_X 68 cd_68 := ⟨by decide +kernel, by decide +kernel, mq_ok_of dc_68 ⟨⟨rfl, trivial⟩,
  ⟨rfl, (by decide : (Int8.ofInt 31).toInt32 = 31)⟩,
  ⟨rfl, trivial⟩,
  ⟨rfl, (by decide : (Int8.ofInt 20).toInt32 = 20)⟩,
  ⟨rfl, trivial⟩,
  ⟨rfl, trivial⟩,
  ⟨rfl, (by decide : (Int8.ofInt 12).toInt32 = 12)⟩,
  ⟨rfl, trivial⟩,
  ⟨rfl, (by decide : (Int16.ofInt 255).toInt32 = 255)⟩,
  ⟨rfl, trivial⟩,
  ⟨rfl, (by decide : (Int8.ofInt 12).toInt32 = 12)⟩,
  ⟨rfl, trivial⟩,
  ⟨rfl, trivial⟩,
  ⟨rfl, trivial⟩,
  ⟨rfl, (by decide : (Int8.ofInt 20).toInt32 = 20)⟩,
  ⟨rfl, trivial⟩,
  ⟨rfl, (by decide : Int32.ofInt 1 = 1)⟩,
  ⟨rfl, trivial⟩,
  ⟨rfl, (by decide : (Int8.ofInt 11).toInt32 = 11)⟩,
  ⟨rfl, trivial⟩,
  ⟨rfl, trivial⟩,
  ⟨rfl, trivial⟩,
  ⟨rfl, (by decide : (Int8.ofInt 21).toInt32 = 21)⟩,
  ⟨rfl, trivial⟩,
  ⟨rfl, (by decide : (Int16.ofInt 1023).toInt32 = 1023)⟩,
  ⟨rfl, trivial⟩,
  ⟨rfl, (by decide : Int32.ofInt 1 = 1)⟩,
  ⟨rfl, trivial⟩,
  ⟨rfl, trivial⟩,
  ⟨rfl, Or.inr rfl⟩, trivial⟩⟩
-- PartitionKernel$Machine.branchOffset
set_option maxRecDepth 100000 in
theorem dc_69 : ∀ en ∈ cd_69, decode prog_5_method_21_code en.1 = .ok (en.2.1, en.2.2.1 - en.1) := by decide +kernel
set_option maxRecDepth 100000 in
set_option maxHeartbeats 4000000 in
theorem ok_69 (cA : Nat → ClassId) : mq_okm pg_cl (pg_tys cA) (pg_E cA) pg_Z pg_sw pg_mx pg_X 69 cd_69 := ⟨by decide +kernel, by decide +kernel, mq_ok_of dc_69 ⟨⟨rfl, trivial⟩,
  ⟨rfl, (by decide : (Int8.ofInt 31).toInt32 = 31)⟩,
  ⟨rfl, trivial⟩,
  ⟨rfl, (by decide : (Int8.ofInt 12).toInt32 = 12)⟩,
  ⟨rfl, trivial⟩,
  ⟨rfl, trivial⟩,
  ⟨rfl, (by decide : (Int8.ofInt 7).toInt32 = 7)⟩,
  ⟨rfl, trivial⟩,
  ⟨rfl, (by decide : Int32.ofInt 1 = 1)⟩,
  ⟨rfl, trivial⟩,
  ⟨rfl, (by decide : (Int8.ofInt 11).toInt32 = 11)⟩,
  ⟨rfl, trivial⟩,
  ⟨rfl, trivial⟩,
  ⟨rfl, trivial⟩,
  ⟨rfl, (by decide : (Int8.ofInt 25).toInt32 = 25)⟩,
  ⟨rfl, trivial⟩,
  ⟨rfl, (by decide : (Int8.ofInt 63).toInt32 = 63)⟩,
  ⟨rfl, trivial⟩,
  ⟨rfl, (by decide : Int32.ofInt 5 = 5)⟩,
  ⟨rfl, trivial⟩,
  ⟨rfl, trivial⟩,
  ⟨rfl, trivial⟩,
  ⟨rfl, (by decide : (Int8.ofInt 8).toInt32 = 8)⟩,
  ⟨rfl, trivial⟩,
  ⟨rfl, (by decide : (Int8.ofInt 15).toInt32 = 15)⟩,
  ⟨rfl, trivial⟩,
  ⟨rfl, (by decide : Int32.ofInt 1 = 1)⟩,
  ⟨rfl, trivial⟩,
  ⟨rfl, trivial⟩,
  ⟨rfl, Or.inr rfl⟩, trivial⟩⟩
-- PartitionKernel.<init>
set_option maxRecDepth 100000 in
theorem dc_70 : ∀ en ∈ cd_70, decode prog_1_method_1_code en.1 = .ok (en.2.1, en.2.2.1 - en.1) := by decide +kernel
set_option maxRecDepth 100000 in
set_option maxHeartbeats 4000000 in
theorem ok_70 (cA : Nat → ClassId) : mq_okm pg_cl (pg_tys cA) (pg_E cA) pg_Z pg_sw pg_mx pg_X 70 cd_70 := ⟨by decide +kernel, by decide +kernel, mq_ok_of dc_70 ⟨⟨rfl, trivial⟩,
  ⟨rfl, rfl, gw_66 _, gw_67 _, gw_obj _⟩,
  ⟨rfl, trivial⟩,
  ⟨rfl, (by decide : Int32.ofInt 4 = 4)⟩,
  ⟨rfl, (by decide : 20 ≠ 999), (by decide : 4 ≤ 65536), rfl, _, 4, rfl, gw_69 _, pX_ao4⟩,
  ⟨rfl, _, _, _, _, okc_6 cA _, (by decide : 0 < 8), gw_274 _, Or.inr ⟨rfl, rfl, rfl⟩, ⟨rfl, Or.inr ⟨_, rfl⟩⟩⟩,
  ⟨rfl, trivial⟩,
  ⟨rfl, (by decide : (Int8.ofInt 8).toInt32 = 8)⟩,
  ⟨rfl, (by decide : 21 ≠ 999), (by decide : 8 ≤ 65536), rfl, _, 5, rfl, gw_71 _, pX_ao5⟩,
  ⟨rfl, _, _, _, _, okc_6 cA _, (by decide : 1 < 8), gw_275 _, Or.inr ⟨rfl, rfl, rfl⟩, ⟨rfl, Or.inr ⟨_, rfl⟩⟩⟩,
  ⟨rfl, trivial⟩,
  ⟨rfl, fun _ => ⟨(by decide : 2 ≠ 999), _, _, _, _, okc_2 cA _, gw_73 _, gw_74 _, gw_46 _⟩⟩,
  ⟨rfl, trivial⟩,
  ⟨rfl, 0, rfl, ⟨okg 11 _ gc_11, gw_46 _, Or.inr ⟨_, pX_75⟩, ⟨by decide +kernel, by decide +kernel, by decide +kernel⟩, by decide +kernel⟩, rfl, gw_76 _, rfl⟩,
  ⟨rfl, _, _, _, _, okc_6 cA _, (by decide : 2 < 8), gw_276 _, Or.inr ⟨rfl, rfl, rfl⟩, ⟨rfl, Or.inl ⟨_, rfl⟩⟩⟩,
  ⟨rfl, trivial⟩,
  ⟨rfl, fun _ => ⟨(by decide : 1 ≠ 999), _, _, _, _, okc_1 cA _, gw_97 _, gw_98 _, gw_47 _⟩⟩,
  ⟨rfl, trivial⟩,
  ⟨rfl, 0, rfl, ⟨okg 8 _ gc_8, gw_47 _, Or.inr ⟨_, pX_99⟩, ⟨by decide +kernel, by decide +kernel, by decide +kernel⟩, by decide +kernel⟩, rfl, gw_100 _, rfl⟩,
  ⟨rfl, _, _, _, _, okc_6 cA _, (by decide : 3 < 8), gw_277 _, Or.inr ⟨rfl, rfl, rfl⟩, ⟨rfl, Or.inl ⟨_, rfl⟩⟩⟩,
  ⟨rfl, (by decide : Int32.ofInt 0 = 0)⟩,
  ⟨rfl, (by decide : 1 < 2)⟩,
  ⟨rfl, trivial⟩,
  ⟨rfl, (by decide : Int32.ofInt 4 = 4)⟩,
  ⟨rfl, (by decide : ((47 : Nat) : Int) + 23 = ((70 : Nat) : Int))⟩,
  ⟨rfl, trivial⟩,
  ⟨rfl, _, _, _, _, okc_6 cA _, (by decide : 0 < 8), gw_274 _, trivial, ⟨rfl, Or.inr ⟨_, rfl⟩⟩⟩,
  ⟨rfl, trivial⟩,
  ⟨rfl, fun _ => ⟨(by decide : 4 ≠ 999), _, _, _, _, okc_4 cA _, gw_69 _, gw_126 _, gw_48 _⟩⟩,
  ⟨rfl, trivial⟩,
  ⟨rfl, trivial⟩,
  ⟨rfl, 1, rfl, ⟨okg 22 _ gc_22, gw_48 _, Or.inl (gw_127 _), ⟨by decide +kernel, by decide +kernel, by decide +kernel⟩, by decide +kernel⟩, rfl, gw_128 _, rfl⟩,
  ⟨rfl, trivial⟩,
  ⟨rfl, (by decide : 1 < 2), (by decide : Int32.ofInt 1 = 1)⟩,
  ⟨rfl, (by decide : ((67 : Nat) : Int) + (-22) = ((45 : Nat) : Int))⟩,
  ⟨rfl, (by decide : Int32.ofInt 0 = 0)⟩,
  ⟨rfl, (by decide : 1 < 2)⟩,
  ⟨rfl, trivial⟩,
  ⟨rfl, (by decide : (Int8.ofInt 8).toInt32 = 8)⟩,
  ⟨rfl, (by decide : ((75 : Nat) : Int) + 22 = ((97 : Nat) : Int))⟩,
  ⟨rfl, trivial⟩,
  ⟨rfl, _, _, _, _, okc_6 cA _, (by decide : 1 < 8), gw_275 _, trivial, ⟨rfl, Or.inr ⟨_, rfl⟩⟩⟩,
  ⟨rfl, trivial⟩,
  ⟨rfl, fun _ => ⟨(by decide : 0 ≠ 999), _, _, _, _, okc_0 cA _, gw_71 _, gw_241 _, gw_51 _⟩⟩,
  ⟨rfl, trivial⟩,
  ⟨rfl, 0, rfl, ⟨okg 1 _ gc_1, gw_51 _, Or.inr ⟨_, pX_242⟩, ⟨by decide +kernel, by decide +kernel, by decide +kernel⟩, by decide +kernel⟩, rfl, gw_243 _, rfl⟩,
  ⟨rfl, trivial⟩,
  ⟨rfl, (by decide : 1 < 2), (by decide : Int32.ofInt 1 = 1)⟩,
  ⟨rfl, (by decide : ((94 : Nat) : Int) + (-22) = ((72 : Nat) : Int))⟩,
  ⟨rfl, rfl⟩, trivial⟩⟩
-- PartitionKernel.window
set_option maxRecDepth 100000 in
theorem dc_71 : ∀ en ∈ cd_71, decode prog_1_method_2_code en.1 = .ok (en.2.1, en.2.2.1 - en.1) := by decide +kernel
set_option maxRecDepth 100000 in
set_option maxHeartbeats 4000000 in
theorem ok_71 (cA : Nat → ClassId) : mq_okm pg_cl (pg_tys cA) (pg_E cA) pg_Z pg_sw pg_mx pg_X 71 cd_71 := ⟨by decide +kernel, by decide +kernel, mq_ok_of dc_71 ⟨⟨rfl, trivial⟩,
  ⟨rfl, ⟨okg 86 _ gc_86, gw_45 _, Or.inl (gw_307 _), ⟨by decide +kernel, by decide +kernel, by decide +kernel⟩, by decide +kernel⟩, gw_308 _⟩,
  ⟨rfl, (by decide : ((4 : Nat) : Int) + 13 = ((17 : Nat) : Int))⟩,
  ⟨rfl, fun h => by cases h⟩,
  ⟨rfl, trivial⟩,
  ⟨rfl, (by decide : Int32.ofInt 1 = 1)⟩,
  ⟨rfl, (by decide : ((19 : Nat) : Int) + 9 = ((28 : Nat) : Int))⟩,
  ⟨rfl, trivial⟩,
  ⟨rfl, (by decide : (Int8.ofInt 100).toInt32 = 100)⟩,
  ⟨rfl, (by decide : ((25 : Nat) : Int) + 13 = ((38 : Nat) : Int))⟩,
  ⟨rfl, fun h => by cases h⟩,
  ⟨rfl, trivial⟩,
  ⟨rfl, _, _, _, _, okc_6 cA _, (by decide : 7 < 8), gw_281 _, trivial, ⟨rfl, rfl⟩⟩,
  ⟨rfl, (by decide : ((42 : Nat) : Int) + 15 = ((57 : Nat) : Int))⟩,
  ⟨rfl, trivial⟩,
  ⟨rfl, _, _, _, _, okc_6 cA _, (by decide : 2 < 8), gw_276 _, trivial, ⟨rfl, Or.inl ⟨_, rfl⟩⟩⟩,
  ⟨rfl, trivial⟩,
  ⟨rfl, trivial⟩,
  ⟨rfl, 2, _, rfl, ⟨okg 12 _ gc_12, gw_46 _, gw_498 _, ⟨by decide +kernel, by decide +kernel, by decide +kernel⟩, by decide +kernel⟩, gw_499 _, rfl, gw_500 _⟩,
  ⟨rfl, (by decide : ((54 : Nat) : Int) + 13 = ((67 : Nat) : Int))⟩,
  ⟨rfl, fun h => by cases h⟩,
  ⟨rfl, rfl⟩, trivial⟩⟩
-- PartitionKernel.process
set_option maxRecDepth 100000 in
theorem dc_72 : ∀ en ∈ cd_72, decode prog_1_method_3_code en.1 = .ok (en.2.1, en.2.2.1 - en.1) := by decide +kernel
set_option maxRecDepth 100000 in
set_option maxHeartbeats 4000000 in
theorem ok_72 (cA : Nat → ClassId) : mq_okm pg_cl (pg_tys cA) (pg_E cA) pg_Z pg_sw pg_mx pg_X 72 cd_72 := ⟨by decide +kernel, by decide +kernel, mq_ok_of dc_72 ⟨⟨rfl, trivial⟩,
  ⟨rfl, trivial⟩,
  ⟨rfl, 1, _, rfl, ⟨okg 89 _ gc_89, gw_45 _, gw_303 _, ⟨by decide +kernel, by decide +kernel, by decide +kernel⟩, by decide +kernel⟩, gw_305 _, rfl, gw_0 _⟩,
  ⟨rfl, (by decide : 6 < 8)⟩,
  ⟨rfl, trivial⟩,
  ⟨rfl, (by decide : ((9 : Nat) : Int) + 13 = ((22 : Nat) : Int))⟩,
  ⟨rfl, fun h => by cases h⟩,
  ⟨rfl, trivial⟩,
  ⟨rfl, ⟨okg 87 _ gc_87, gw_45 _, Or.inl (gw_525 _), ⟨by decide +kernel, by decide +kernel, by decide +kernel⟩, by decide +kernel⟩, gw_526 _⟩,
  ⟨rfl, (by decide : ((26 : Nat) : Int) + 19 = ((45 : Nat) : Int))⟩,
  ⟨rfl, trivial⟩,
  ⟨rfl, ⟨okg 88 _ gc_88, gw_45 _, Or.inl (gw_528 _), ⟨by decide +kernel, by decide +kernel, by decide +kernel⟩, by decide +kernel⟩, gw_529 _⟩,
  ⟨rfl, (by decide : ((34 : Nat) : Int) + 11 = ((45 : Nat) : Int))⟩,
  ⟨rfl, trivial⟩,
  ⟨rfl, ⟨okg 88 _ gc_88, gw_45 _, Or.inl (gw_528 _), ⟨by decide +kernel, by decide +kernel, by decide +kernel⟩, by decide +kernel⟩, gw_529 _⟩,
  ⟨rfl, (by decide : ((42 : Nat) : Int) + 13 = ((55 : Nat) : Int))⟩,
  ⟨rfl, fun h => by cases h⟩,
  ⟨rfl, trivial⟩,
  ⟨rfl, _, _, _, _, okc_6 cA _, (by decide : 7 < 8), gw_281 _, trivial, ⟨rfl, rfl⟩⟩,
  ⟨rfl, (by decide : ((59 : Nat) : Int) + 7 = ((66 : Nat) : Int))⟩,
  ⟨rfl, (by decide : Int32.ofInt (-1) = (-1))⟩,
  ⟨rfl, (by decide : ((63 : Nat) : Int) + 14 = ((77 : Nat) : Int))⟩,
  ⟨rfl, trivial⟩,
  ⟨rfl, trivial⟩,
  ⟨rfl, trivial⟩,
  ⟨rfl, trivial⟩,
  ⟨rfl, trivial⟩,
  ⟨rfl, 4, _, rfl, ⟨okg 23 _ gc_23, gw_48 _, gw_533 _, ⟨by decide +kernel, by decide +kernel, by decide +kernel⟩, by decide +kernel⟩, gw_534 _, rfl, gw_535 _⟩,
  ⟨rfl, (by decide : 7 < 8)⟩,
  ⟨rfl, trivial⟩,
  ⟨rfl, (by decide : Int32.ofInt (-1) = (-1))⟩,
  ⟨rfl, (by decide : ((82 : Nat) : Int) + 13 = ((95 : Nat) : Int))⟩,
  ⟨rfl, fun h => by cases h⟩,
  ⟨rfl, trivial⟩,
  ⟨rfl, Or.inr rfl⟩, trivial⟩⟩
