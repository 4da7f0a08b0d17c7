/-! Classes, callees, and the words that are held apart. -/
def pg_E (cA : Nat → ClassId) : mEv := (pg_ki, pg_fr, cA)
def pg_tys (cA : Nat → ClassId) : List (ClassId × FieldType) := [(cA 1, .int), (cA 2, .long), (cA 4, .byte), (cA 5, .boolean), (cA 104, .object "PartitionKernel$Partition"), (cA 100, .object "PartitionKernel$Channel"), (cA 105, .object "PartitionKernel$Proc")]
def pg_X (U : State) : Prop := va_AO "PartitionKernel$Partition" U ∧ va_AO "PartitionKernel$Channel" U ∧ va_AO "PartitionKernel$Proc" U ∧ va_Nw (Jvm.Cond.methodLinkNest "PartitionKernel" (23 : Nat) ({ cls := "PartitionKernel$Frame", name := "<init>", desc := "()V" } : Jvm.MethodName) "PartitionKernel") U ∧ va_Nw (Jvm.Cond.methodLinkNest "PartitionKernel" (30 : Nat) ({ cls := "PartitionKernel$ErrorLog", name := "<init>", desc := "()V" } : Jvm.MethodName) "PartitionKernel") U ∧ va_Nw (Jvm.Cond.methodLinkNest "PartitionKernel$Partition" (11 : Nat) ({ cls := "PartitionKernel$Memory", name := "<init>", desc := "()V" } : Jvm.MethodName) "PartitionKernel") U ∧ va_Nw (Jvm.Cond.methodLinkNest "PartitionKernel" (38 : Nat) ({ cls := "PartitionKernel$Channel", name := "<init>", desc := "()V" } : Jvm.MethodName) "PartitionKernel") U ∧ va_Nw (Jvm.Cond.methodLinkNest "PartitionKernel$Partition" (103 : Nat) ({ cls := "PartitionKernel", name := "isSpan", desc := "(I)Z" } : Jvm.MethodName) "PartitionKernel") U ∧ va_Nw (Jvm.Cond.methodLinkNest "PartitionKernel$Partition" (109 : Nat) ({ cls := "PartitionKernel", name := "isPriority", desc := "(I)Z" } : Jvm.MethodName) "PartitionKernel") U
theorem pX_ao4 : ∀ s : State, pg_X s → va_AO "PartitionKernel$Partition" s := fun _ h => h.1
theorem pX_ao5 : ∀ s : State, pg_X s → va_AO "PartitionKernel$Channel" s := fun _ h => h.2.1
theorem pX_ao6 : ∀ s : State, pg_X s → va_AO "PartitionKernel$Proc" s := fun _ h => h.2.2.1
theorem pX_75 : ∀ s : State, pg_X s → va_Nw (Jvm.Cond.methodLinkNest "PartitionKernel" (23 : Nat) ({ cls := "PartitionKernel$Frame", name := "<init>", desc := "()V" } : Jvm.MethodName) "PartitionKernel") s := fun _ h => h.2.2.2.1
theorem pX_99 : ∀ s : State, pg_X s → va_Nw (Jvm.Cond.methodLinkNest "PartitionKernel" (30 : Nat) ({ cls := "PartitionKernel$ErrorLog", name := "<init>", desc := "()V" } : Jvm.MethodName) "PartitionKernel") s := fun _ h => h.2.2.2.2.1
theorem pX_133 : ∀ s : State, pg_X s → va_Nw (Jvm.Cond.methodLinkNest "PartitionKernel$Partition" (11 : Nat) ({ cls := "PartitionKernel$Memory", name := "<init>", desc := "()V" } : Jvm.MethodName) "PartitionKernel") s := fun _ h => h.2.2.2.2.2.1
theorem pX_242 : ∀ s : State, pg_X s → va_Nw (Jvm.Cond.methodLinkNest "PartitionKernel" (38 : Nat) ({ cls := "PartitionKernel$Channel", name := "<init>", desc := "()V" } : Jvm.MethodName) "PartitionKernel") s := fun _ h => h.2.2.2.2.2.2.1
theorem pX_750 : ∀ s : State, pg_X s → va_Nw (Jvm.Cond.methodLinkNest "PartitionKernel$Partition" (103 : Nat) ({ cls := "PartitionKernel", name := "isSpan", desc := "(I)Z" } : Jvm.MethodName) "PartitionKernel") s := fun _ h => h.2.2.2.2.2.2.2.1
theorem pX_760 : ∀ s : State, pg_X s → va_Nw (Jvm.Cond.methodLinkNest "PartitionKernel$Partition" (109 : Nat) ({ cls := "PartitionKernel", name := "isPriority", desc := "(I)Z" } : Jvm.MethodName) "PartitionKernel") s := fun _ h => h.2.2.2.2.2.2.2.2
theorem pX_warm : ∀ u U : State, u.WarmedH U.vm → pg_X u → pg_X U := fun u U hW h => ⟨h.1.moved hW.alike, h.2.1.moved hW.alike, h.2.2.1.moved hW.alike, (pX_75 u h).warmM hW, (pX_99 u h).warmM hW, (pX_133 u h).warmM hW, (pX_242 u h).warmM hW, (pX_750 u h).warmM hW, (pX_760 u h).warmM hW⟩
theorem oku_0 (mi : Nat) : ∀ w ∈ u_ws "PartitionKernel$Channel" pg_T0 8, w ∈ mq_ws pg_Z mi := by
  have key : ∀ j, j < 8 → u_lay "PartitionKernel$Channel" pg_T0 j ∈ mq_ws pg_Z mi := (lt_s (lt_s (lt_s (lt_s (lt_s (lt_s (lt_s (lt_s lt_0 (gw_257 mi)) (gw_259 mi)) (gw_261 mi)) (gw_263 mi)) (gw_265 mi)) (gw_267 mi)) (gw_269 mi)) (gw_271 mi))
  intro w hw
  obtain ⟨j, hj, rfl⟩ := List.mem_map.mp hw
  exact key j (List.mem_range.mp hj)
theorem okc_0 (cA : Nat → ClassId) (mi : Nat) : mq_okc (mq_ws pg_Z mi) pg_cl (pg_E cA) 0 "PartitionKernel$Channel" pg_T0 8 pg_t0 :=
  ⟨rfl, rfl, oku_0 mi, by decide +kernel, by decide +kernel, (by decide +kernel : ∀ j, j < 8 → defaultValue (pg_t0 j) = if pg_fr 0 j then Value.null else Value.int 0)⟩
theorem oku_1 (mi : Nat) : ∀ w ∈ u_ws "PartitionKernel$ErrorLog" pg_T1 7, w ∈ mq_ws pg_Z mi := by
  have key : ∀ j, j < 7 → u_lay "PartitionKernel$ErrorLog" pg_T1 j ∈ mq_ws pg_Z mi := (lt_s (lt_s (lt_s (lt_s (lt_s (lt_s (lt_s lt_0 (gw_111 mi)) (gw_113 mi)) (gw_115 mi)) (gw_117 mi)) (gw_119 mi)) (gw_121 mi)) (gw_123 mi))
  intro w hw
  obtain ⟨j, hj, rfl⟩ := List.mem_map.mp hw
  exact key j (List.mem_range.mp hj)
theorem okc_1 (cA : Nat → ClassId) (mi : Nat) : mq_okc (mq_ws pg_Z mi) pg_cl (pg_E cA) 1 "PartitionKernel$ErrorLog" pg_T1 7 pg_t1 :=
  ⟨rfl, rfl, oku_1 mi, by decide +kernel, by decide +kernel, (by decide +kernel : ∀ j, j < 7 → defaultValue (pg_t1 j) = if pg_fr 1 j then Value.null else Value.int 0)⟩
theorem oku_2 (mi : Nat) : ∀ w ∈ u_ws "PartitionKernel$Frame" pg_T2 5, w ∈ mq_ws pg_Z mi := by
  have key : ∀ j, j < 5 → u_lay "PartitionKernel$Frame" pg_T2 j ∈ mq_ws pg_Z mi := (lt_s (lt_s (lt_s (lt_s (lt_s lt_0 (gw_85 mi)) (gw_87 mi)) (gw_89 mi)) (gw_91 mi)) (gw_93 mi))
  intro w hw
  obtain ⟨j, hj, rfl⟩ := List.mem_map.mp hw
  exact key j (List.mem_range.mp hj)
theorem okc_2 (cA : Nat → ClassId) (mi : Nat) : mq_okc (mq_ws pg_Z mi) pg_cl (pg_E cA) 2 "PartitionKernel$Frame" pg_T2 5 pg_t2 :=
  ⟨rfl, rfl, oku_2 mi, by decide +kernel, by decide +kernel, (by decide +kernel : ∀ j, j < 5 → defaultValue (pg_t2 j) = if pg_fr 2 j then Value.null else Value.int 0)⟩
theorem oku_3 (mi : Nat) : ∀ w ∈ u_ws "PartitionKernel$Memory" pg_T3 1, w ∈ mq_ws pg_Z mi := by
  have key : ∀ j, j < 1 → u_lay "PartitionKernel$Memory" pg_T3 j ∈ mq_ws pg_Z mi := (lt_s lt_0 (gw_138 mi))
  intro w hw
  obtain ⟨j, hj, rfl⟩ := List.mem_map.mp hw
  exact key j (List.mem_range.mp hj)
theorem okc_3 (cA : Nat → ClassId) (mi : Nat) : mq_okc (mq_ws pg_Z mi) pg_cl (pg_E cA) 3 "PartitionKernel$Memory" pg_T3 1 pg_t3 :=
  ⟨rfl, rfl, oku_3 mi, by decide +kernel, by decide +kernel, (by decide +kernel : ∀ j, j < 1 → defaultValue (pg_t3 j) = if pg_fr 3 j then Value.null else Value.int 0)⟩
theorem oku_4 (mi : Nat) : ∀ w ∈ u_ws "PartitionKernel$Partition" pg_T4 9, w ∈ mq_ws pg_Z mi := by
  have key : ∀ j, j < 9 → u_lay "PartitionKernel$Partition" pg_T4 j ∈ mq_ws pg_Z mi := (lt_s (lt_s (lt_s (lt_s (lt_s (lt_s (lt_s (lt_s (lt_s lt_0 (gw_222 mi)) (gw_224 mi)) (gw_226 mi)) (gw_228 mi)) (gw_230 mi)) (gw_232 mi)) (gw_234 mi)) (gw_236 mi)) (gw_238 mi))
  intro w hw
  obtain ⟨j, hj, rfl⟩ := List.mem_map.mp hw
  exact key j (List.mem_range.mp hj)
theorem okc_4 (cA : Nat → ClassId) (mi : Nat) : mq_okc (mq_ws pg_Z mi) pg_cl (pg_E cA) 4 "PartitionKernel$Partition" pg_T4 9 pg_t4 :=
  ⟨rfl, rfl, oku_4 mi, by decide +kernel, by decide +kernel, (by decide +kernel : ∀ j, j < 9 → defaultValue (pg_t4 j) = if pg_fr 4 j then Value.null else Value.int 0)⟩
theorem oku_5 (mi : Nat) : ∀ w ∈ u_ws "PartitionKernel$Proc" pg_T5 14, w ∈ mq_ws pg_Z mi := by
  have key : ∀ j, j < 14 → u_lay "PartitionKernel$Proc" pg_T5 j ∈ mq_ws pg_Z mi := (lt_s (lt_s (lt_s (lt_s (lt_s (lt_s (lt_s (lt_s (lt_s (lt_s (lt_s (lt_s (lt_s (lt_s lt_0 (gw_177 mi)) (gw_179 mi)) (gw_181 mi)) (gw_183 mi)) (gw_185 mi)) (gw_187 mi)) (gw_189 mi)) (gw_191 mi)) (gw_193 mi)) (gw_195 mi)) (gw_197 mi)) (gw_199 mi)) (gw_201 mi)) (gw_203 mi))
  intro w hw
  obtain ⟨j, hj, rfl⟩ := List.mem_map.mp hw
  exact key j (List.mem_range.mp hj)
theorem okc_5 (cA : Nat → ClassId) (mi : Nat) : mq_okc (mq_ws pg_Z mi) pg_cl (pg_E cA) 5 "PartitionKernel$Proc" pg_T5 14 pg_t5 :=
  ⟨rfl, rfl, oku_5 mi, by decide +kernel, by decide +kernel, (by decide +kernel : ∀ j, j < 14 → defaultValue (pg_t5 j) = if pg_fr 5 j then Value.null else Value.int 0)⟩
theorem oku_6 (mi : Nat) : ∀ w ∈ u_ws "PartitionKernel" pg_T6 8, w ∈ mq_ws pg_Z mi := by
  have key : ∀ j, j < 8 → u_lay "PartitionKernel" pg_T6 j ∈ mq_ws pg_Z mi := (lt_s (lt_s (lt_s (lt_s (lt_s (lt_s (lt_s (lt_s lt_0 (gw_282 mi)) (gw_284 mi)) (gw_286 mi)) (gw_288 mi)) (gw_290 mi)) (gw_292 mi)) (gw_294 mi)) (gw_296 mi))
  intro w hw
  obtain ⟨j, hj, rfl⟩ := List.mem_map.mp hw
  exact key j (List.mem_range.mp hj)
theorem okc_6 (cA : Nat → ClassId) (mi : Nat) : mq_okc (mq_ws pg_Z mi) pg_cl (pg_E cA) 6 "PartitionKernel" pg_T6 8 pg_t6 :=
  ⟨rfl, rfl, oku_6 mi, by decide +kernel, by decide +kernel, (by decide +kernel : ∀ j, j < 8 → defaultValue (pg_t6 j) = if pg_fr 6 j then Value.null else Value.int 0)⟩
theorem oku_7 (mi : Nat) : ∀ w ∈ u_ws "PartitionKernelModel" pg_T7 44, w ∈ mq_ws pg_Z mi := by
  have key : ∀ j, j < 44 → u_lay "PartitionKernelModel" pg_T7 j ∈ mq_ws pg_Z mi := (lt_s (lt_s (lt_s (lt_s (lt_s (lt_s (lt_s (lt_s (lt_s (lt_s (lt_s (lt_s (lt_s (lt_s (lt_s (lt_s (lt_s (lt_s (lt_s (lt_s (lt_s (lt_s (lt_s (lt_s (lt_s (lt_s (lt_s (lt_s (lt_s (lt_s (lt_s (lt_s (lt_s (lt_s (lt_s (lt_s (lt_s (lt_s (lt_s (lt_s (lt_s (lt_s (lt_s (lt_s lt_0 (gw_840 mi)) (gw_842 mi)) (gw_844 mi)) (gw_846 mi)) (gw_848 mi)) (gw_850 mi)) (gw_852 mi)) (gw_854 mi)) (gw_856 mi)) (gw_858 mi)) (gw_860 mi)) (gw_862 mi)) (gw_864 mi)) (gw_866 mi)) (gw_868 mi)) (gw_870 mi)) (gw_872 mi)) (gw_874 mi)) (gw_876 mi)) (gw_878 mi)) (gw_880 mi)) (gw_882 mi)) (gw_884 mi)) (gw_886 mi)) (gw_888 mi)) (gw_890 mi)) (gw_892 mi)) (gw_894 mi)) (gw_896 mi)) (gw_898 mi)) (gw_900 mi)) (gw_902 mi)) (gw_904 mi)) (gw_906 mi)) (gw_908 mi)) (gw_910 mi)) (gw_912 mi)) (gw_914 mi)) (gw_916 mi)) (gw_918 mi)) (gw_920 mi)) (gw_922 mi)) (gw_924 mi)) (gw_926 mi))
  intro w hw
  obtain ⟨j, hj, rfl⟩ := List.mem_map.mp hw
  exact key j (List.mem_range.mp hj)
theorem okc_7 (cA : Nat → ClassId) (mi : Nat) : mq_okc (mq_ws pg_Z mi) pg_cl (pg_E cA) 7 "PartitionKernelModel" pg_T7 44 pg_t7 :=
  ⟨rfl, rfl, oku_7 mi, by decide +kernel, by decide +kernel, (by decide +kernel : ∀ j, j < 44 → defaultValue (pg_t7 j) = if pg_fr 7 j then Value.null else Value.int 0)⟩
theorem okg_of {big : List Cond} (a : Nat) (hG : ∀ w ∈ pg_G, w ∈ big) (hc : Jvm.Cond.code (pg_Z.1 a) (pg_Z.2.1 a) (pg_Z.2.2.1 a) (pg_Z.2.2.2.1 a) ∈ pg_G) : GoodIn big (mq_ws pg_Z a) := by
  intro w hw
  rcases List.mem_cons.mp hw with h | h
  · rw [h]; exact ⟨hG _ hc, good_of_word (List.mem_filter.mp hc).2⟩
  · exact ⟨hG _ h, good_of_word (List.mem_filter.mp h).2⟩
theorem okg (a mi : Nat) (hc : Jvm.Cond.code (pg_Z.1 a) (pg_Z.2.1 a) (pg_Z.2.2.1 a) (pg_Z.2.2.2.1 a) ∈ pg_G) : GoodIn (mq_ws pg_Z mi) (mq_ws pg_Z a) := okg_of a (fun _ h => List.mem_cons_of_mem _ h) hc
