/-! Rows of methods, by program. -/
-- PartitionKernel.channel
set_option maxRecDepth 100000 in
theorem dc_73 : ∀ en ∈ cd_73, decode prog_1_method_4_code en.1 = .ok (en.2.1, en.2.2.1 - en.1) := by decide +kernel
set_option maxRecDepth 100000 in
set_option maxHeartbeats 4000000 in
theorem ok_73 (cA : Nat → ClassId) : mq_okm pg_cl (pg_tys cA) (pg_E cA) pg_Z pg_sw pg_mx pg_X 73 cd_73 := ⟨by decide +kernel, by decide +kernel, mq_ok_of dc_73 ⟨⟨rfl, trivial⟩,
  ⟨rfl, ⟨okg 86 _ gc_86, gw_45 _, Or.inl (gw_307 _), ⟨by decide +kernel, by decide +kernel, by decide +kernel⟩, by decide +kernel⟩, gw_308 _⟩,
  ⟨rfl, (by decide : ((4 : Nat) : Int) + 10 = ((14 : Nat) : Int))⟩,
  ⟨rfl, trivial⟩,
  ⟨rfl, ⟨okg 86 _ gc_86, gw_45 _, Or.inl (gw_307 _), ⟨by decide +kernel, by decide +kernel, by decide +kernel⟩, by decide +kernel⟩, gw_308 _⟩,
  ⟨rfl, (by decide : ((11 : Nat) : Int) + 13 = ((24 : Nat) : Int))⟩,
  ⟨rfl, fun h => by cases h⟩,
  ⟨rfl, trivial⟩,
  ⟨rfl, (by decide : ((25 : Nat) : Int) + 19 = ((44 : Nat) : Int))⟩,
  ⟨rfl, trivial⟩,
  ⟨rfl, (by decide : Int32.ofInt 1 = 1)⟩,
  ⟨rfl, (by decide : ((31 : Nat) : Int) + 21 = ((52 : Nat) : Int))⟩,
  ⟨rfl, trivial⟩,
  ⟨rfl, (by decide : (Int8.ofInt 8).toInt32 = 8)⟩,
  ⟨rfl, (by decide : ((38 : Nat) : Int) + 24 = ((62 : Nat) : Int))⟩,
  ⟨rfl, (by decide : ((41 : Nat) : Int) + 11 = ((52 : Nat) : Int))⟩,
  ⟨rfl, trivial⟩,
  ⟨rfl, ⟨okg 88 _ gc_88, gw_45 _, Or.inl (gw_528 _), ⟨by decide +kernel, by decide +kernel, by decide +kernel⟩, by decide +kernel⟩, gw_529 _⟩,
  ⟨rfl, (by decide : ((49 : Nat) : Int) + 13 = ((62 : Nat) : Int))⟩,
  ⟨rfl, fun h => by cases h⟩,
  ⟨rfl, trivial⟩,
  ⟨rfl, _, _, _, _, okc_6 cA _, (by decide : 7 < 8), gw_281 _, trivial, ⟨rfl, rfl⟩⟩,
  ⟨rfl, (by decide : ((66 : Nat) : Int) + 12 = ((78 : Nat) : Int))⟩,
  ⟨rfl, trivial⟩,
  ⟨rfl, _, _, _, _, okc_6 cA _, (by decide : 4 < 8), gw_278 _, trivial, ⟨rfl, rfl⟩⟩,
  ⟨rfl, (by decide : (Int8.ofInt 8).toInt32 = 8)⟩,
  ⟨rfl, (by decide : ((75 : Nat) : Int) + 13 = ((88 : Nat) : Int))⟩,
  ⟨rfl, fun h => by cases h⟩,
  ⟨rfl, trivial⟩,
  ⟨rfl, _, _, _, _, okc_6 cA _, (by decide : 1 < 8), gw_275 _, trivial, ⟨rfl, Or.inr ⟨_, rfl⟩⟩⟩,
  ⟨rfl, trivial⟩,
  ⟨rfl, _, _, _, _, okc_6 cA _, (by decide : 4 < 8), gw_278 _, trivial, ⟨rfl, rfl⟩⟩,
  ⟨rfl, trivial⟩,
  ⟨rfl, trivial⟩,
  ⟨rfl, trivial⟩,
  ⟨rfl, trivial⟩,
  ⟨rfl, trivial⟩,
  ⟨rfl, 4, _, rfl, ⟨okg 2 _ gc_2, gw_51 _, gw_548 _, ⟨by decide +kernel, by decide +kernel, by decide +kernel⟩, by decide +kernel⟩, gw_549 _, rfl, gw_550 _⟩,
  ⟨rfl, trivial⟩,
  ⟨rfl, trivial⟩,
  ⟨rfl, _, _, _, _, okc_6 cA _, (by decide : 4 < 8), gw_278 _, trivial, ⟨rfl, rfl⟩⟩,
  ⟨rfl, (by decide : Int32.ofInt 1 = 1)⟩,
  ⟨rfl, trivial⟩,
  ⟨rfl, _, _, _, _, okc_6 cA _, (by decide : 4 < 8), gw_278 _, Or.inl rfl, ⟨rfl, rfl⟩⟩,
  ⟨rfl, trivial⟩,
  ⟨rfl, _, _, _, _, okc_6 cA _, (by decide : 4 < 8), gw_278 _, trivial, ⟨rfl, rfl⟩⟩,
  ⟨rfl, (by decide : Int32.ofInt 1 = 1)⟩,
  ⟨rfl, trivial⟩,
  ⟨rfl, Or.inr rfl⟩, trivial⟩⟩
-- PartitionKernel.action
set_option maxRecDepth 100000 in
theorem dc_74 : ∀ en ∈ cd_74, decode prog_1_method_5_code en.1 = .ok (en.2.1, en.2.2.1 - en.1) := by decide +kernel
set_option maxRecDepth 100000 in
set_option maxHeartbeats 4000000 in
theorem ok_74 (cA : Nat → ClassId) : mq_okm pg_cl (pg_tys cA) (pg_E cA) pg_Z pg_sw pg_mx pg_X 74 cd_74 := ⟨by decide +kernel, by decide +kernel, mq_ok_of dc_74 ⟨⟨rfl, trivial⟩,
  ⟨rfl, trivial⟩,
  ⟨rfl, 1, _, rfl, ⟨okg 89 _ gc_89, gw_45 _, gw_303 _, ⟨by decide +kernel, by decide +kernel, by decide +kernel⟩, by decide +kernel⟩, gw_305 _, rfl, gw_0 _⟩,
  ⟨rfl, (by decide : 4 < 5)⟩,
  ⟨rfl, trivial⟩,
  ⟨rfl, (by decide : ((9 : Nat) : Int) + 12 = ((21 : Nat) : Int))⟩,
  ⟨rfl, trivial⟩,
  ⟨rfl, (by decide : ((13 : Nat) : Int) + 8 = ((21 : Nat) : Int))⟩,
  ⟨rfl, trivial⟩,
  ⟨rfl, (by decide : Int32.ofInt 4 = 4)⟩,
  ⟨rfl, (by decide : ((18 : Nat) : Int) + 13 = ((31 : Nat) : Int))⟩,
  ⟨rfl, fun h => by cases h⟩,
  ⟨rfl, trivial⟩,
  ⟨rfl, (by decide : ((32 : Nat) : Int) + 8 = ((40 : Nat) : Int))⟩,
  ⟨rfl, trivial⟩,
  ⟨rfl, (by decide : Int32.ofInt 4 = 4)⟩,
  ⟨rfl, (by decide : ((37 : Nat) : Int) + 13 = ((50 : Nat) : Int))⟩,
  ⟨rfl, fun h => by cases h⟩,
  ⟨rfl, trivial⟩,
  ⟨rfl, _, _, _, _, okc_4 cA _, (by decide : 4 < 9), gw_214 _, trivial, ⟨rfl, Or.inr ⟨_, rfl⟩⟩⟩,
  ⟨rfl, trivial⟩,
  ⟨rfl, trivial⟩,
  ⟨rfl, trivial⟩,
  ⟨rfl, rfl⟩, trivial⟩⟩
-- PartitionKernel.poke
set_option maxRecDepth 100000 in
theorem dc_75 : ∀ en ∈ cd_75, decode prog_1_method_6_code en.1 = .ok (en.2.1, en.2.2.1 - en.1) := by decide +kernel
set_option maxRecDepth 100000 in
set_option maxHeartbeats 4000000 in
theorem ok_75 (cA : Nat → ClassId) : mq_okm pg_cl (pg_tys cA) (pg_E cA) pg_Z pg_sw pg_mx pg_X 75 cd_75 := ⟨by decide +kernel, by decide +kernel, mq_ok_of dc_75 ⟨⟨rfl, trivial⟩,
  ⟨rfl, trivial⟩,
  ⟨rfl, 1, _, rfl, ⟨okg 89 _ gc_89, gw_45 _, gw_303 _, ⟨by decide +kernel, by decide +kernel, by decide +kernel⟩, by decide +kernel⟩, gw_305 _, rfl, gw_0 _⟩,
  ⟨rfl, (by decide : 4 < 5)⟩,
  ⟨rfl, trivial⟩,
  ⟨rfl, (by decide : ((9 : Nat) : Int) + 11 = ((20 : Nat) : Int))⟩,
  ⟨rfl, trivial⟩,
  ⟨rfl, (by decide : Int32.ofInt 4 = 4)⟩,
  ⟨rfl, ⟨okg 16 _ gc_16, gw_49 _, Or.inl (gw_568 _), ⟨by decide +kernel, by decide +kernel, by decide +kernel⟩, by decide +kernel⟩, gw_315 _⟩,
  ⟨rfl, (by decide : ((17 : Nat) : Int) + 13 = ((30 : Nat) : Int))⟩,
  ⟨rfl, fun h => by cases h⟩,
  ⟨rfl, trivial⟩,
  ⟨rfl, _, _, _, _, okc_4 cA _, (by decide : 1 < 9), gw_209 _, trivial, ⟨rfl, Or.inl ⟨_, rfl⟩⟩⟩,
  ⟨rfl, trivial⟩,
  ⟨rfl, trivial⟩,
  ⟨rfl, 2, _, rfl, ⟨okg 18 _ gc_18, gw_49 _, gw_570 _, ⟨by decide +kernel, by decide +kernel, by decide +kernel⟩, by decide +kernel⟩, gw_571 _, rfl, gw_572 _⟩,
  ⟨rfl, rfl⟩, trivial⟩⟩
-- PartitionKernel.begin
set_option maxRecDepth 100000 in
theorem dc_76 : ∀ en ∈ cd_76, decode prog_1_method_7_code en.1 = .ok (en.2.1, en.2.2.1 - en.1) := by decide +kernel
set_option maxRecDepth 100000 in
set_option maxHeartbeats 4000000 in
theorem ok_76 (cA : Nat → ClassId) : mq_okm pg_cl (pg_tys cA) (pg_E cA) pg_Z pg_sw pg_mx pg_X 76 cd_76 := ⟨by decide +kernel, by decide +kernel, mq_ok_of dc_76 ⟨⟨rfl, trivial⟩,
  ⟨rfl, _, _, _, _, okc_6 cA _, (by decide : 7 < 8), gw_281 _, trivial, ⟨rfl, rfl⟩⟩,
  ⟨rfl, (by decide : ((4 : Nat) : Int) + 13 = ((17 : Nat) : Int))⟩,
  ⟨rfl, trivial⟩,
  ⟨rfl, _, _, _, _, okc_6 cA _, (by decide : 2 < 8), gw_276 _, trivial, ⟨rfl, Or.inl ⟨_, rfl⟩⟩⟩,
  ⟨rfl, _, _, _, _, okc_2 cA _, (by decide : 2 < 5), gw_82 _, trivial, ⟨rfl, rfl⟩⟩,
  ⟨rfl, (by decide : ((14 : Nat) : Int) + 13 = ((27 : Nat) : Int))⟩,
  ⟨rfl, fun h => by cases h⟩,
  ⟨rfl, trivial⟩,
  ⟨rfl, (by decide : Int32.ofInt 1 = 1)⟩,
  ⟨rfl, _, _, _, _, okc_6 cA _, (by decide : 7 < 8), gw_281 _, Or.inl rfl, ⟨rfl, rfl⟩⟩,
  ⟨rfl, (by decide : Int32.ofInt 0 = 0)⟩,
  ⟨rfl, (by decide : 1 < 2)⟩,
  ⟨rfl, trivial⟩,
  ⟨rfl, (by decide : Int32.ofInt 4 = 4)⟩,
  ⟨rfl, (by decide : ((36 : Nat) : Int) + 22 = ((58 : Nat) : Int))⟩,
  ⟨rfl, trivial⟩,
  ⟨rfl, _, _, _, _, okc_6 cA _, (by decide : 0 < 8), gw_274 _, trivial, ⟨rfl, Or.inr ⟨_, rfl⟩⟩⟩,
  ⟨rfl, trivial⟩,
  ⟨rfl, trivial⟩,
  ⟨rfl, trivial⟩,
  ⟨rfl, _, _, _, _, okc_6 cA _, (by decide : 5 < 8), gw_279 _, trivial, ⟨rfl, rfl⟩⟩,
  ⟨rfl, 1, _, rfl, ⟨okg 28 _ gc_28, gw_48 _, gw_582 _, ⟨by decide +kernel, by decide +kernel, by decide +kernel⟩, by decide +kernel⟩, gw_583 _, rfl, gw_584 _⟩,
  ⟨rfl, (by decide : 1 < 2), (by decide : Int32.ofInt 1 = 1)⟩,
  ⟨rfl, (by decide : ((55 : Nat) : Int) + (-21) = ((34 : Nat) : Int))⟩,
  ⟨rfl, rfl⟩, trivial⟩⟩
-- PartitionKernel.run
set_option maxRecDepth 100000 in
theorem dc_77 : ∀ en ∈ cd_77, decode prog_1_method_8_code en.1 = .ok (en.2.1, en.2.2.1 - en.1) := by decide +kernel
set_option maxRecDepth 100000 in
set_option maxHeartbeats 4000000 in
theorem ok_77 (cA : Nat → ClassId) : mq_okm pg_cl (pg_tys cA) (pg_E cA) pg_Z pg_sw pg_mx pg_X 77 cd_77 := ⟨by decide +kernel, by decide +kernel, mq_ok_of dc_77 ⟨⟨rfl, trivial⟩,
  ⟨rfl, _, _, _, _, okc_6 cA _, (by decide : 7 < 8), gw_281 _, trivial, ⟨rfl, rfl⟩⟩,
  ⟨rfl, (by decide : ((4 : Nat) : Int) + 13 = ((17 : Nat) : Int))⟩,
  ⟨rfl, fun h => by cases h⟩,
  ⟨rfl, trivial⟩,
  ⟨rfl, (by decide : ((18 : Nat) : Int) + 10 = ((28 : Nat) : Int))⟩,
  ⟨rfl, trivial⟩,
  ⟨rfl, (by decide : (Int16.ofInt 500).toInt32 = 500)⟩,
  ⟨rfl, (by decide : ((25 : Nat) : Int) + 13 = ((38 : Nat) : Int))⟩,
  ⟨rfl, fun h => by cases h⟩,
  ⟨rfl, trivial⟩,
  ⟨rfl, _, _, _, _, okc_6 cA _, (by decide : 6 < 8), gw_280 _, trivial, ⟨rfl, rfl⟩⟩,
  ⟨rfl, (by decide : 2 < 5)⟩,
  ⟨rfl, (by decide : Int32.ofInt 0 = 0)⟩,
  ⟨rfl, (by decide : 3 < 5)⟩,
  ⟨rfl, trivial⟩,
  ⟨rfl, trivial⟩,
  ⟨rfl, (by decide : ((47 : Nat) : Int) + 58 = ((105 : Nat) : Int))⟩,
  ⟨rfl, trivial⟩,
  ⟨rfl, trivial⟩,
  ⟨rfl, _, _, _, _, okc_6 cA _, (by decide : 2 < 8), gw_276 _, trivial, ⟨rfl, Or.inl ⟨_, rfl⟩⟩⟩,
  ⟨rfl, 0, _, rfl, ⟨okg 13 _ gc_13, gw_46 _, gw_400 _, ⟨by decide +kernel, by decide +kernel, by decide +kernel⟩, by decide +kernel⟩, gw_401 _, rfl, gw_402 _⟩,
  ⟨rfl, 1, _, rfl, ⟨okg 89 _ gc_89, gw_45 _, gw_303 _, ⟨by decide +kernel, by decide +kernel, by decide +kernel⟩, by decide +kernel⟩, gw_305 _, rfl, gw_0 _⟩,
  ⟨rfl, (by decide : 4 < 5)⟩,
  ⟨rfl, trivial⟩,
  ⟨rfl, (by decide : ((65 : Nat) : Int) + 17 = ((82 : Nat) : Int))⟩,
  ⟨rfl, trivial⟩,
  ⟨rfl, _, _, _, _, okc_4 cA _, (by decide : 8 < 9), gw_221 _, trivial, ⟨rfl, rfl⟩⟩,
  ⟨rfl, (by decide : ((73 : Nat) : Int) + 9 = ((82 : Nat) : Int))⟩,
  ⟨rfl, trivial⟩,
  ⟨rfl, trivial⟩,
  ⟨rfl, 1, _, rfl, ⟨okg 92 _ gc_92, gw_45 _, gw_611 _, ⟨by decide +kernel, by decide +kernel, by decide +kernel⟩, by decide +kernel⟩, gw_613 _, rfl, gw_7 _⟩,
  ⟨rfl, trivial⟩,
  ⟨rfl, trivial⟩,
  ⟨rfl, _, _, _, _, okc_6 cA _, (by decide : 5 < 8), gw_279 _, trivial, ⟨rfl, rfl⟩⟩,
  ⟨rfl, (by decide : Int32.ofInt 1 = 1)⟩,
  ⟨rfl, trivial⟩,
  ⟨rfl, _, _, _, _, okc_6 cA _, (by decide : 5 < 8), gw_279 _, Or.inl rfl, ⟨rfl, rfl⟩⟩,
  ⟨rfl, trivial⟩,
  ⟨rfl, _, _, _, _, okc_6 cA _, (by decide : 2 < 8), gw_276 _, trivial, ⟨rfl, Or.inl ⟨_, rfl⟩⟩⟩,
  ⟨rfl, 0, _, rfl, ⟨okg 14 _ gc_14, gw_46 _, gw_786 _, ⟨by decide +kernel, by decide +kernel, by decide +kernel⟩, by decide +kernel⟩, gw_787 _, rfl, gw_788 _⟩,
  ⟨rfl, (by decide : 3 < 5), (by decide : Int32.ofInt 1 = 1)⟩,
  ⟨rfl, (by decide : ((102 : Nat) : Int) + (-57) = ((45 : Nat) : Int))⟩,
  ⟨rfl, trivial⟩,
  ⟨rfl, _, _, _, _, okc_6 cA _, (by decide : 6 < 8), gw_280 _, trivial, ⟨rfl, rfl⟩⟩,
  ⟨rfl, trivial⟩,
  ⟨rfl, trivial⟩,
  ⟨rfl, Or.inr rfl⟩, trivial⟩⟩
-- PartitionKernel.peek
set_option maxRecDepth 100000 in
theorem dc_78 : ∀ en ∈ cd_78, decode prog_1_method_9_code en.1 = .ok (en.2.1, en.2.2.1 - en.1) := by decide +kernel
set_option maxRecDepth 100000 in
set_option maxHeartbeats 4000000 in
theorem ok_78 (cA : Nat → ClassId) : mq_okm pg_cl (pg_tys cA) (pg_E cA) pg_Z pg_sw pg_mx pg_X 78 cd_78 := ⟨by decide +kernel, by decide +kernel, mq_ok_of dc_78 ⟨⟨rfl, trivial⟩,
  ⟨rfl, trivial⟩,
  ⟨rfl, 1, _, rfl, ⟨okg 89 _ gc_89, gw_45 _, gw_303 _, ⟨by decide +kernel, by decide +kernel, by decide +kernel⟩, by decide +kernel⟩, gw_305 _, rfl, gw_0 _⟩,
  ⟨rfl, (by decide : 3 < 4)⟩,
  ⟨rfl, trivial⟩,
  ⟨rfl, (by decide : ((7 : Nat) : Int) + 7 = ((14 : Nat) : Int))⟩,
  ⟨rfl, (by decide : Int32.ofInt 0 = 0)⟩,
  ⟨rfl, (by decide : ((11 : Nat) : Int) + 11 = ((22 : Nat) : Int))⟩,
  ⟨rfl, trivial⟩,
  ⟨rfl, _, _, _, _, okc_4 cA _, (by decide : 1 < 9), gw_209 _, trivial, ⟨rfl, Or.inl ⟨_, rfl⟩⟩⟩,
  ⟨rfl, trivial⟩,
  ⟨rfl, 1, _, rfl, ⟨okg 17 _ gc_17, gw_49 _, gw_310 _, ⟨by decide +kernel, by decide +kernel, by decide +kernel⟩, by decide +kernel⟩, gw_311 _, rfl, gw_312 _⟩,
  ⟨rfl, Or.inr rfl⟩, trivial⟩⟩
-- PartitionKernel.register
set_option maxRecDepth 100000 in
theorem dc_79 : ∀ en ∈ cd_79, decode prog_1_method_10_code en.1 = .ok (en.2.1, en.2.2.1 - en.1) := by decide +kernel
set_option maxRecDepth 100000 in
set_option maxHeartbeats 4000000 in
theorem ok_79 (cA : Nat → ClassId) : mq_okm pg_cl (pg_tys cA) (pg_E cA) pg_Z pg_sw pg_mx pg_X 79 cd_79 := ⟨by decide +kernel, by decide +kernel, mq_ok_of dc_79 ⟨⟨rfl, trivial⟩,
  ⟨rfl, trivial⟩,
  ⟨rfl, trivial⟩,
  ⟨rfl, 2, _, rfl, ⟨okg 90 _ gc_90, gw_45 _, gw_321 _, ⟨by decide +kernel, by decide +kernel, by decide +kernel⟩, by decide +kernel⟩, gw_323 _, rfl, gw_1 _⟩,
  ⟨rfl, (by decide : 4 < 5)⟩,
  ⟨rfl, trivial⟩,
  ⟨rfl, (by decide : ((10 : Nat) : Int) + 7 = ((17 : Nat) : Int))⟩,
  ⟨rfl, (by decide : Int32.ofInt 0 = 0)⟩,
  ⟨rfl, (by decide : ((14 : Nat) : Int) + 9 = ((23 : Nat) : Int))⟩,
  ⟨rfl, trivial⟩,
  ⟨rfl, trivial⟩,
  ⟨rfl, 1, _, rfl, ⟨okg 43 _ gc_43, gw_50 _, gw_329 _, ⟨by decide +kernel, by decide +kernel, by decide +kernel⟩, by decide +kernel⟩, gw_330 _, rfl, gw_331 _⟩,
  ⟨rfl, Or.inr rfl⟩, trivial⟩⟩
-- PartitionKernel.state
set_option maxRecDepth 100000 in
theorem dc_80 : ∀ en ∈ cd_80, decode prog_1_method_11_code en.1 = .ok (en.2.1, en.2.2.1 - en.1) := by decide +kernel
set_option maxRecDepth 100000 in
set_option maxHeartbeats 4000000 in
theorem ok_80 (cA : Nat → ClassId) : mq_okm pg_cl (pg_tys cA) (pg_E cA) pg_Z pg_sw pg_mx pg_X 80 cd_80 := ⟨by decide +kernel, by decide +kernel, mq_ok_of dc_80 ⟨⟨rfl, trivial⟩,
  ⟨rfl, trivial⟩,
  ⟨rfl, trivial⟩,
  ⟨rfl, 2, _, rfl, ⟨okg 90 _ gc_90, gw_45 _, gw_321 _, ⟨by decide +kernel, by decide +kernel, by decide +kernel⟩, by decide +kernel⟩, gw_323 _, rfl, gw_1 _⟩,
  ⟨rfl, (by decide : 4 < 5)⟩,
  ⟨rfl, trivial⟩,
  ⟨rfl, (by decide : ((10 : Nat) : Int) + 7 = ((17 : Nat) : Int))⟩,
  ⟨rfl, (by decide : Int32.ofInt (-1) = (-1))⟩,
  ⟨rfl, (by decide : ((14 : Nat) : Int) + 9 = ((23 : Nat) : Int))⟩,
  ⟨rfl, trivial⟩,
  ⟨rfl, trivial⟩,
  ⟨rfl, 1, _, rfl, ⟨okg 49 _ gc_49, gw_50 _, gw_337 _, ⟨by decide +kernel, by decide +kernel, by decide +kernel⟩, by decide +kernel⟩, gw_338 _, rfl, gw_339 _⟩,
  ⟨rfl, Or.inr rfl⟩, trivial⟩⟩
-- PartitionKernel.partition
set_option maxRecDepth 100000 in
theorem dc_81 : ∀ en ∈ cd_81, decode prog_1_method_12_code en.1 = .ok (en.2.1, en.2.2.1 - en.1) := by decide +kernel
set_option maxRecDepth 100000 in
set_option maxHeartbeats 4000000 in
theorem ok_81 (cA : Nat → ClassId) : mq_okm pg_cl (pg_tys cA) (pg_E cA) pg_Z pg_sw pg_mx pg_X 81 cd_81 := ⟨by decide +kernel, by decide +kernel, mq_ok_of dc_81 ⟨⟨rfl, trivial⟩,
  ⟨rfl, trivial⟩,
  ⟨rfl, 1, _, rfl, ⟨okg 89 _ gc_89, gw_45 _, gw_303 _, ⟨by decide +kernel, by decide +kernel, by decide +kernel⟩, by decide +kernel⟩, gw_305 _, rfl, gw_0 _⟩,
  ⟨rfl, (by decide : 3 < 4)⟩,
  ⟨rfl, trivial⟩,
  ⟨rfl, (by decide : ((7 : Nat) : Int) + 7 = ((14 : Nat) : Int))⟩,
  ⟨rfl, (by decide : Int32.ofInt (-1) = (-1))⟩,
  ⟨rfl, (by decide : ((11 : Nat) : Int) + 8 = ((19 : Nat) : Int))⟩,
  ⟨rfl, trivial⟩,
  ⟨rfl, trivial⟩,
  ⟨rfl, 1, _, rfl, ⟨okg 26 _ gc_26, gw_48 _, gw_345 _, ⟨by decide +kernel, by decide +kernel, by decide +kernel⟩, by decide +kernel⟩, gw_346 _, rfl, gw_347 _⟩,
  ⟨rfl, Or.inr rfl⟩, trivial⟩⟩
-- PartitionKernel.traffic
set_option maxRecDepth 100000 in
theorem dc_82 : ∀ en ∈ cd_82, decode prog_1_method_13_code en.1 = .ok (en.2.1, en.2.2.1 - en.1) := by decide +kernel
set_option maxRecDepth 100000 in
set_option maxHeartbeats 4000000 in
theorem ok_82 (cA : Nat → ClassId) : mq_okm pg_cl (pg_tys cA) (pg_E cA) pg_Z pg_sw pg_mx pg_X 82 cd_82 := ⟨by decide +kernel, by decide +kernel, mq_ok_of dc_82 ⟨⟨rfl, trivial⟩,
  ⟨rfl, trivial⟩,
  ⟨rfl, 1, _, rfl, ⟨okg 91 _ gc_91, gw_45 _, gw_368 _, ⟨by decide +kernel, by decide +kernel, by decide +kernel⟩, by decide +kernel⟩, gw_370 _, rfl, gw_3 _⟩,
  ⟨rfl, (by decide : 3 < 4)⟩,
  ⟨rfl, trivial⟩,
  ⟨rfl, (by decide : ((7 : Nat) : Int) + 7 = ((14 : Nat) : Int))⟩,
  ⟨rfl, (by decide : Int32.ofInt (-1) = (-1))⟩,
  ⟨rfl, (by decide : ((11 : Nat) : Int) + 8 = ((19 : Nat) : Int))⟩,
  ⟨rfl, trivial⟩,
  ⟨rfl, trivial⟩,
  ⟨rfl, 1, _, rfl, ⟨okg 6 _ gc_6, gw_51 _, gw_372 _, ⟨by decide +kernel, by decide +kernel, by decide +kernel⟩, by decide +kernel⟩, gw_373 _, rfl, gw_374 _⟩,
  ⟨rfl, Or.inr rfl⟩, trivial⟩⟩
-- PartitionKernel.word
set_option maxRecDepth 100000 in
theorem dc_83 : ∀ en ∈ cd_83, decode prog_1_method_14_code en.1 = .ok (en.2.1, en.2.2.1 - en.1) := by decide +kernel
set_option maxRecDepth 100000 in
set_option maxHeartbeats 4000000 in
theorem ok_83 (cA : Nat → ClassId) : mq_okm pg_cl (pg_tys cA) (pg_E cA) pg_Z pg_sw pg_mx pg_X 83 cd_83 := ⟨by decide +kernel, by decide +kernel, mq_ok_of dc_83 ⟨⟨rfl, trivial⟩,
  ⟨rfl, trivial⟩,
  ⟨rfl, 1, _, rfl, ⟨okg 91 _ gc_91, gw_45 _, gw_368 _, ⟨by decide +kernel, by decide +kernel, by decide +kernel⟩, by decide +kernel⟩, gw_370 _, rfl, gw_3 _⟩,
  ⟨rfl, (by decide : 3 < 4)⟩,
  ⟨rfl, trivial⟩,
  ⟨rfl, (by decide : ((7 : Nat) : Int) + 7 = ((14 : Nat) : Int))⟩,
  ⟨rfl, (by decide : Int32.ofInt 0 = 0)⟩,
  ⟨rfl, (by decide : ((11 : Nat) : Int) + 8 = ((19 : Nat) : Int))⟩,
  ⟨rfl, trivial⟩,
  ⟨rfl, trivial⟩,
  ⟨rfl, 1, _, rfl, ⟨okg 5 _ gc_5, gw_51 _, gw_380 _, ⟨by decide +kernel, by decide +kernel, by decide +kernel⟩, by decide +kernel⟩, gw_381 _, rfl, gw_382 _⟩,
  ⟨rfl, Or.inr rfl⟩, trivial⟩⟩
-- PartitionKernel.error
set_option maxRecDepth 100000 in
theorem dc_84 : ∀ en ∈ cd_84, decode prog_1_method_15_code en.1 = .ok (en.2.1, en.2.2.1 - en.1) := by decide +kernel
set_option maxRecDepth 100000 in
set_option maxHeartbeats 4000000 in
theorem ok_84 (cA : Nat → ClassId) : mq_okm pg_cl (pg_tys cA) (pg_E cA) pg_Z pg_sw pg_mx pg_X 84 cd_84 := ⟨by decide +kernel, by decide +kernel, mq_ok_of dc_84 ⟨⟨rfl, trivial⟩,
  ⟨rfl, _, _, _, _, okc_6 cA _, (by decide : 3 < 8), gw_277 _, trivial, ⟨rfl, Or.inl ⟨_, rfl⟩⟩⟩,
  ⟨rfl, trivial⟩,
  ⟨rfl, trivial⟩,
  ⟨rfl, 2, _, rfl, ⟨okg 10 _ gc_10, gw_47 _, gw_392 _, ⟨by decide +kernel, by decide +kernel, by decide +kernel⟩, by decide +kernel⟩, gw_393 _, rfl, gw_394 _⟩,
  ⟨rfl, Or.inr rfl⟩, trivial⟩⟩
-- PartitionKernel.about
set_option maxRecDepth 100000 in
theorem dc_85 : ∀ en ∈ cd_85, decode prog_1_method_16_code en.1 = .ok (en.2.1, en.2.2.1 - en.1) := by decide +kernel
set_option maxRecDepth 100000 in
set_option maxHeartbeats 4000000 in
theorem ok_85 (cA : Nat → ClassId) : mq_okm pg_cl (pg_tys cA) (pg_E cA) pg_Z pg_sw pg_mx pg_X 85 cd_85 := ⟨by decide +kernel, by decide +kernel, mq_ok_of dc_85 ⟨⟨rfl, trivial⟩,
  ⟨by decide, by decide, by decide, by decide, by decide, by decide, by decide, by decide, by decide, by decide, trivial⟩,
  ⟨rfl, trivial⟩,
  ⟨rfl, _, _, _, _, okc_6 cA _, (by decide : 5 < 8), gw_279 _, trivial, ⟨rfl, rfl⟩⟩,
  ⟨rfl, Or.inr rfl⟩,
  ⟨rfl, trivial⟩,
  ⟨rfl, _, _, _, _, okc_6 cA _, (by decide : 3 < 8), gw_277 _, trivial, ⟨rfl, Or.inl ⟨_, rfl⟩⟩⟩,
  ⟨rfl, _, _, _, _, okc_1 cA _, (by decide : 4 < 7), gw_108 _, trivial, ⟨rfl, rfl⟩⟩,
  ⟨rfl, Or.inr rfl⟩,
  ⟨rfl, trivial⟩,
  ⟨rfl, _, _, _, _, okc_6 cA _, (by decide : 6 < 8), gw_280 _, trivial, ⟨rfl, rfl⟩⟩,
  ⟨rfl, Or.inr rfl⟩,
  ⟨rfl, trivial⟩,
  ⟨rfl, _, _, _, _, okc_6 cA _, (by decide : 7 < 8), gw_281 _, trivial, ⟨rfl, rfl⟩⟩,
  ⟨rfl, (by decide : ((54 : Nat) : Int) + 13 = ((67 : Nat) : Int))⟩,
  ⟨rfl, trivial⟩,
  ⟨rfl, _, _, _, _, okc_6 cA _, (by decide : 2 < 8), gw_276 _, trivial, ⟨rfl, Or.inl ⟨_, rfl⟩⟩⟩,
  ⟨rfl, 0, _, rfl, ⟨okg 13 _ gc_13, gw_46 _, gw_400 _, ⟨by decide +kernel, by decide +kernel, by decide +kernel⟩, by decide +kernel⟩, gw_401 _, rfl, gw_402 _⟩,
  ⟨rfl, (by decide : ((64 : Nat) : Int) + 4 = ((68 : Nat) : Int))⟩,
  ⟨rfl, (by decide : Int32.ofInt (-1) = (-1))⟩,
  ⟨rfl, Or.inr rfl⟩,
  ⟨rfl, (by decide : Int32.ofInt (-1) = (-1))⟩,
  ⟨rfl, Or.inr rfl⟩, trivial⟩⟩
-- PartitionKernel.isPartition
set_option maxRecDepth 100000 in
theorem dc_86 : ∀ en ∈ cd_86, decode prog_1_method_17_code en.1 = .ok (en.2.1, en.2.2.1 - en.1) := by decide +kernel
set_option maxRecDepth 100000 in
set_option maxHeartbeats 4000000 in
theorem ok_86 (cA : Nat → ClassId) : mq_okm pg_cl (pg_tys cA) (pg_E cA) pg_Z pg_sw pg_mx pg_X 86 cd_86 := ⟨by decide +kernel, by decide +kernel, mq_ok_of dc_86 ⟨⟨rfl, trivial⟩,
  ⟨rfl, (by decide : ((1 : Nat) : Int) + 12 = ((13 : Nat) : Int))⟩,
  ⟨rfl, trivial⟩,
  ⟨rfl, (by decide : Int32.ofInt 4 = 4)⟩,
  ⟨rfl, (by decide : ((6 : Nat) : Int) + 7 = ((13 : Nat) : Int))⟩,
  ⟨rfl, (by decide : Int32.ofInt 1 = 1)⟩,
  ⟨rfl, (by decide : ((10 : Nat) : Int) + 4 = ((14 : Nat) : Int))⟩,
  ⟨rfl, (by decide : Int32.ofInt 0 = 0)⟩,
  ⟨rfl, Or.inl ⟨rfl, rfl⟩⟩, trivial⟩⟩
-- PartitionKernel.isPriority
set_option maxRecDepth 100000 in
theorem dc_87 : ∀ en ∈ cd_87, decode prog_1_method_18_code en.1 = .ok (en.2.1, en.2.2.1 - en.1) := by decide +kernel
set_option maxRecDepth 100000 in
set_option maxHeartbeats 4000000 in
theorem ok_87 (cA : Nat → ClassId) : mq_okm pg_cl (pg_tys cA) (pg_E cA) pg_Z pg_sw pg_mx pg_X 87 cd_87 := ⟨by decide +kernel, by decide +kernel, mq_ok_of dc_87 ⟨⟨rfl, trivial⟩,
  ⟨rfl, (by decide : ((1 : Nat) : Int) + 13 = ((14 : Nat) : Int))⟩,
  ⟨rfl, trivial⟩,
  ⟨rfl, (by decide : (Int8.ofInt 15).toInt32 = 15)⟩,
  ⟨rfl, (by decide : ((7 : Nat) : Int) + 7 = ((14 : Nat) : Int))⟩,
  ⟨rfl, (by decide : Int32.ofInt 1 = 1)⟩,
  ⟨rfl, (by decide : ((11 : Nat) : Int) + 4 = ((15 : Nat) : Int))⟩,
  ⟨rfl, (by decide : Int32.ofInt 0 = 0)⟩,
  ⟨rfl, Or.inl ⟨rfl, rfl⟩⟩, trivial⟩⟩
-- PartitionKernel.isSpan
set_option maxRecDepth 100000 in
theorem dc_88 : ∀ en ∈ cd_88, decode prog_1_method_19_code en.1 = .ok (en.2.1, en.2.2.1 - en.1) := by decide +kernel
set_option maxRecDepth 100000 in
set_option maxHeartbeats 4000000 in
theorem ok_88 (cA : Nat → ClassId) : mq_okm pg_cl (pg_tys cA) (pg_E cA) pg_Z pg_sw pg_mx pg_X 88 cd_88 := ⟨by decide +kernel, by decide +kernel, mq_ok_of dc_88 ⟨⟨rfl, trivial⟩,
  ⟨rfl, (by decide : ((1 : Nat) : Int) + 13 = ((14 : Nat) : Int))⟩,
  ⟨rfl, trivial⟩,
  ⟨rfl, gw_531 _⟩,
  ⟨rfl, (by decide : ((7 : Nat) : Int) + 7 = ((14 : Nat) : Int))⟩,
  ⟨rfl, (by decide : Int32.ofInt 1 = 1)⟩,
  ⟨rfl, (by decide : ((11 : Nat) : Int) + 4 = ((15 : Nat) : Int))⟩,
  ⟨rfl, (by decide : Int32.ofInt 0 = 0)⟩,
  ⟨rfl, Or.inl ⟨rfl, rfl⟩⟩, trivial⟩⟩
-- PartitionKernel.partitionAt
set_option maxRecDepth 100000 in
theorem dc_89 : ∀ en ∈ cd_89, decode prog_1_method_20_code en.1 = .ok (en.2.1, en.2.2.1 - en.1) := by decide +kernel
set_option maxRecDepth 100000 in
set_option maxHeartbeats 4000000 in
theorem ok_89 (cA : Nat → ClassId) : mq_okm pg_cl (pg_tys cA) (pg_E cA) pg_Z pg_sw pg_mx pg_X 89 cd_89 := ⟨by decide +kernel, by decide +kernel, mq_ok_of dc_89 ⟨⟨rfl, trivial⟩,
  ⟨rfl, ⟨okg 86 _ gc_86, gw_45 _, Or.inl (gw_307 _), ⟨by decide +kernel, by decide +kernel, by decide +kernel⟩, by decide +kernel⟩, gw_308 _⟩,
  ⟨rfl, (by decide : ((4 : Nat) : Int) + 12 = ((16 : Nat) : Int))⟩,
  ⟨rfl, trivial⟩,
  ⟨rfl, _, _, _, _, okc_6 cA _, (by decide : 0 < 8), gw_274 _, trivial, ⟨rfl, Or.inr ⟨_, rfl⟩⟩⟩,
  ⟨rfl, trivial⟩,
  ⟨rfl, trivial⟩,
  ⟨rfl, (by decide : ((13 : Nat) : Int) + 4 = ((17 : Nat) : Int))⟩,
  ⟨rfl, trivial⟩,
  ⟨rfl, _, rfl, Or.inl ⟨_, rfl⟩⟩, trivial⟩⟩
-- PartitionKernel.processAt
set_option maxRecDepth 100000 in
theorem dc_90 : ∀ en ∈ cd_90, decode prog_1_method_21_code en.1 = .ok (en.2.1, en.2.2.1 - en.1) := by decide +kernel
set_option maxRecDepth 100000 in
set_option maxHeartbeats 4000000 in
theorem ok_90 (cA : Nat → ClassId) : mq_okm pg_cl (pg_tys cA) (pg_E cA) pg_Z pg_sw pg_mx pg_X 90 cd_90 := ⟨by decide +kernel, by decide +kernel, mq_ok_of dc_90 ⟨⟨rfl, trivial⟩,
  ⟨rfl, trivial⟩,
  ⟨rfl, 1, _, rfl, ⟨okg 89 _ gc_89, gw_45 _, gw_303 _, ⟨by decide +kernel, by decide +kernel, by decide +kernel⟩, by decide +kernel⟩, gw_305 _, rfl, gw_0 _⟩,
  ⟨rfl, (by decide : 3 < 4)⟩,
  ⟨rfl, trivial⟩,
  ⟨rfl, (by decide : ((7 : Nat) : Int) + 7 = ((14 : Nat) : Int))⟩,
  ⟨rfl, trivial⟩,
  ⟨rfl, (by decide : ((11 : Nat) : Int) + 8 = ((19 : Nat) : Int))⟩,
  ⟨rfl, trivial⟩,
  ⟨rfl, trivial⟩,
  ⟨rfl, 1, _, rfl, ⟨okg 24 _ gc_24, gw_48 _, gw_325 _, ⟨by decide +kernel, by decide +kernel, by decide +kernel⟩, by decide +kernel⟩, gw_326 _, rfl, gw_327 _⟩,
  ⟨rfl, _, rfl, Or.inl ⟨_, rfl⟩⟩, trivial⟩⟩
-- PartitionKernel.channelAt
set_option maxRecDepth 100000 in
theorem dc_91 : ∀ en ∈ cd_91, decode prog_1_method_22_code en.1 = .ok (en.2.1, en.2.2.1 - en.1) := by decide +kernel
set_option maxRecDepth 100000 in
set_option maxHeartbeats 4000000 in
theorem ok_91 (cA : Nat → ClassId) : mq_okm pg_cl (pg_tys cA) (pg_E cA) pg_Z pg_sw pg_mx pg_X 91 cd_91 := ⟨by decide +kernel, by decide +kernel, mq_ok_of dc_91 ⟨⟨rfl, trivial⟩,
  ⟨rfl, (by decide : ((1 : Nat) : Int) + 20 = ((21 : Nat) : Int))⟩,
  ⟨rfl, trivial⟩,
  ⟨rfl, trivial⟩,
  ⟨rfl, _, _, _, _, okc_6 cA _, (by decide : 4 < 8), gw_278 _, trivial, ⟨rfl, rfl⟩⟩,
  ⟨rfl, (by decide : ((9 : Nat) : Int) + 12 = ((21 : Nat) : Int))⟩,
  ⟨rfl, trivial⟩,
  ⟨rfl, _, _, _, _, okc_6 cA _, (by decide : 1 < 8), gw_275 _, trivial, ⟨rfl, Or.inr ⟨_, rfl⟩⟩⟩,
  ⟨rfl, trivial⟩,
  ⟨rfl, trivial⟩,
  ⟨rfl, (by decide : ((18 : Nat) : Int) + 4 = ((22 : Nat) : Int))⟩,
  ⟨rfl, trivial⟩,
  ⟨rfl, _, rfl, Or.inl ⟨_, rfl⟩⟩, trivial⟩⟩
-- PartitionKernel.tick
set_option maxRecDepth 100000 in
theorem dc_92 : ∀ en ∈ cd_92, decode prog_1_method_23_code en.1 = .ok (en.2.1, en.2.2.1 - en.1) := by decide +kernel
set_option maxRecDepth 100000 in
set_option maxHeartbeats 4000000 in
theorem ok_92 (cA : Nat → ClassId) : mq_okm pg_cl (pg_tys cA) (pg_E cA) pg_Z pg_sw pg_mx pg_X 92 cd_92 := ⟨by decide +kernel, by decide +kernel, mq_ok_of dc_92 ⟨⟨rfl, trivial⟩,
  ⟨rfl, trivial⟩,
  ⟨rfl, _, _, _, _, okc_6 cA _, (by decide : 5 < 8), gw_279 _, trivial, ⟨rfl, rfl⟩⟩,
  ⟨rfl, 1, _, rfl, ⟨okg 30 _ gc_30, gw_48 _, gw_615 _, ⟨by decide +kernel, by decide +kernel, by decide +kernel⟩, by decide +kernel⟩, gw_616 _, rfl, gw_617 _⟩,
  ⟨rfl, trivial⟩,
  ⟨rfl, trivial⟩,
  ⟨rfl, 1, _, rfl, ⟨okg 93 _ gc_93, gw_45 _, gw_623 _, ⟨by decide +kernel, by decide +kernel, by decide +kernel⟩, by decide +kernel⟩, gw_625 _, rfl, gw_9 _⟩,
  ⟨rfl, (by decide : ((13 : Nat) : Int) + 4 = ((17 : Nat) : Int))⟩,
  ⟨rfl, rfl⟩,
  ⟨rfl, trivial⟩,
  ⟨rfl, (by decide : Int32.ofInt 1 = 1)⟩,
  ⟨rfl, (by decide : Int32.ofInt (-1) = (-1))⟩,
  ⟨rfl, 2, _, rfl, ⟨okg 31 _ gc_31, gw_48 _, gw_651 _, ⟨by decide +kernel, by decide +kernel, by decide +kernel⟩, by decide +kernel⟩, gw_354 _, rfl, gw_355 _⟩,
  ⟨rfl, (by decide : 2 < 4)⟩,
  ⟨rfl, trivial⟩,
  ⟨rfl, (by decide : ((25 : Nat) : Int) + 4 = ((29 : Nat) : Int))⟩,
  ⟨rfl, rfl⟩,
  ⟨rfl, trivial⟩,
  ⟨rfl, trivial⟩,
  ⟨rfl, _, _, _, _, okc_5 cA _, (by decide : 13 < 14), gw_176 _, trivial, ⟨rfl, rfl⟩⟩,
  ⟨rfl, (by decide : Int32.ofInt 1 = 1)⟩,
  ⟨rfl, trivial⟩,
  ⟨rfl, _, _, _, _, okc_5 cA _, (by decide : 13 < 14), gw_176 _, Or.inl rfl, ⟨rfl, rfl⟩⟩,
  ⟨rfl, trivial⟩,
  ⟨rfl, trivial⟩,
  ⟨rfl, _, _, _, _, okc_6 cA _, (by decide : 6 < 8), gw_280 _, trivial, ⟨rfl, rfl⟩⟩,
  ⟨rfl, (by decide : Int32.ofInt 1 = 1)⟩,
  ⟨rfl, trivial⟩,
  ⟨rfl, _, _, _, _, okc_6 cA _, (by decide : 6 < 8), gw_280 _, Or.inl rfl, ⟨rfl, rfl⟩⟩,
  ⟨rfl, trivial⟩,
  ⟨rfl, trivial⟩,
  ⟨rfl, _, _, _, _, okc_4 cA _, (by decide : 1 < 9), gw_209 _, trivial, ⟨rfl, Or.inl ⟨_, rfl⟩⟩⟩,
  ⟨rfl, ⟨okg 50 _ gc_50, gw_60 _, Or.inl (gw_652 _), ⟨by decide +kernel, by decide +kernel, by decide +kernel⟩, by decide +kernel⟩, gw_653 _⟩,
  ⟨rfl, (by decide : 3 < 4)⟩,
  ⟨rfl, trivial⟩,
  ⟨rfl, (by decide : (Int8.ofInt (-2)).toInt32 = (-2))⟩,
  ⟨rfl, (by decide : ((61 : Nat) : Int) + 10 = ((71 : Nat) : Int))⟩,
  ⟨rfl, trivial⟩,
  ⟨rfl, trivial⟩,
  ⟨rfl, trivial⟩,
  ⟨rfl, 2, _, rfl, ⟨okg 95 _ gc_95, gw_45 _, gw_734 _, ⟨by decide +kernel, by decide +kernel, by decide +kernel⟩, by decide +kernel⟩, gw_736 _, rfl, gw_11 _⟩,
  ⟨rfl, (by decide : 3 < 4)⟩,
  ⟨rfl, trivial⟩,
  ⟨rfl, (by decide : Int32.ofInt (-1) = (-1))⟩,
  ⟨rfl, (by decide : ((73 : Nat) : Int) + 11 = ((84 : Nat) : Int))⟩,
  ⟨rfl, trivial⟩,
  ⟨rfl, trivial⟩,
  ⟨rfl, trivial⟩,
  ⟨rfl, trivial⟩,
  ⟨rfl, 3, _, rfl, ⟨okg 94 _ gc_94, gw_45 _, gw_631 _, ⟨by decide +kernel, by decide +kernel, by decide +kernel⟩, by decide +kernel⟩, gw_633 _, rfl, gw_10 _⟩,
  ⟨rfl, trivial⟩,
  ⟨rfl, rfl⟩, trivial⟩⟩
-- PartitionKernel.dueErrorsEndTick
set_option maxRecDepth 100000 in
theorem dc_93 : ∀ en ∈ cd_93, decode prog_1_method_24_code en.1 = .ok (en.2.1, en.2.2.1 - en.1) := by decide +kernel
set_option maxRecDepth 100000 in
set_option maxHeartbeats 4000000 in
theorem ok_93 (cA : Nat → ClassId) : mq_okm pg_cl (pg_tys cA) (pg_E cA) pg_Z pg_sw pg_mx pg_X 93 cd_93 := ⟨by decide +kernel, by decide +kernel, mq_ok_of dc_93 ⟨⟨rfl, (by decide : Int32.ofInt 0 = 0)⟩,
  ⟨rfl, (by decide : 2 < 4)⟩,
  ⟨rfl, trivial⟩,
  ⟨rfl, trivial⟩,
  ⟨rfl, _, _, _, _, okc_4 cA _, (by decide : 5 < 9), gw_216 _, trivial, ⟨rfl, rfl⟩⟩,
  ⟨rfl, (by decide : ((7 : Nat) : Int) + 44 = ((51 : Nat) : Int))⟩,
  ⟨rfl, trivial⟩,
  ⟨rfl, _, _, _, _, okc_4 cA _, (by decide : 2 < 9), gw_211 _, trivial, ⟨rfl, Or.inr ⟨_, rfl⟩⟩⟩,
  ⟨rfl, trivial⟩,
  ⟨rfl, trivial⟩,
  ⟨rfl, (by decide : 3 < 4)⟩,
  ⟨rfl, trivial⟩,
  ⟨rfl, trivial⟩,
  ⟨rfl, _, _, _, _, okc_6 cA _, (by decide : 5 < 8), gw_279 _, trivial, ⟨rfl, rfl⟩⟩,
  ⟨rfl, 1, _, rfl, ⟨okg 47 _ gc_47, gw_50 _, gw_627 _, ⟨by decide +kernel, by decide +kernel, by decide +kernel⟩, by decide +kernel⟩, gw_628 _, rfl, gw_629 _⟩,
  ⟨rfl, (by decide : ((25 : Nat) : Int) + 20 = ((45 : Nat) : Int))⟩,
  ⟨rfl, trivial⟩,
  ⟨rfl, (by decide : Int32.ofInt (-1) = (-1))⟩,
  ⟨rfl, _, _, _, _, okc_5 cA _, (by decide : 8 < 14), gw_166 _, Or.inl rfl, ⟨rfl, rfl⟩⟩,
  ⟨rfl, trivial⟩,
  ⟨rfl, trivial⟩,
  ⟨rfl, trivial⟩,
  ⟨rfl, (by decide : Int32.ofInt 2 = 2)⟩,
  ⟨rfl, 3, _, rfl, ⟨okg 94 _ gc_94, gw_45 _, gw_631 _, ⟨by decide +kernel, by decide +kernel, by decide +kernel⟩, by decide +kernel⟩, gw_633 _, rfl, gw_10 _⟩,
  ⟨rfl, (by decide : ((40 : Nat) : Int) + 5 = ((45 : Nat) : Int))⟩,
  ⟨rfl, (by decide : Int32.ofInt 1 = 1)⟩,
  ⟨rfl, Or.inl ⟨rfl, rfl⟩⟩,
  ⟨rfl, (by decide : 2 < 4), (by decide : Int32.ofInt 1 = 1)⟩,
  ⟨rfl, (by decide : ((48 : Nat) : Int) + (-46) = ((2 : Nat) : Int))⟩,
  ⟨rfl, (by decide : Int32.ofInt 0 = 0)⟩,
  ⟨rfl, Or.inl ⟨rfl, rfl⟩⟩, trivial⟩⟩
