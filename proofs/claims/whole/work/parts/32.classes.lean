/-! Classes, callees, and the words that are held apart. -/
def pg_E (cA : Nat → ClassId) : mEv := (pg_ki, pg_fr, cA)
def pg_tys (cA : Nat → ClassId) : List (ClassId × FieldType) := [(cA 1, .int), (cA 2, .long), (cA 4, .byte), (cA 5, .boolean), (cA 104, .object "PartitionKernel$Partition"), (cA 100, .object "PartitionKernel$Channel"), (cA 105, .object "PartitionKernel$Proc")]
def pg_X (U : State) : Prop := va_AO "PartitionKernel$Partition" U ∧ va_AO "PartitionKernel$Channel" U ∧ va_AO "PartitionKernel$Proc" U ∧ va_Nw (Jvm.Cond.methodLinkNest "PartitionKernel" (23 : Nat) ({ cls := "PartitionKernel$Frame", name := "<init>", desc := "()V" } : Jvm.MethodName) "PartitionKernel") U ∧ va_Nw (Jvm.Cond.methodLinkNest "PartitionKernel" (30 : Nat) ({ cls := "PartitionKernel$ErrorLog", name := "<init>", desc := "()V" } : Jvm.MethodName) "PartitionKernel") U ∧ va_Nw (Jvm.Cond.methodLinkNest "PartitionKernel$Partition" (11 : Nat) ({ cls := "PartitionKernel$Memory", name := "<init>", desc := "()V" } : Jvm.MethodName) "PartitionKernel") U ∧ va_Nw (Jvm.Cond.methodLinkNest "PartitionKernel" (38 : Nat) ({ cls := "PartitionKernel$Channel", name := "<init>", desc := "()V" } : Jvm.MethodName) "PartitionKernel") U ∧ va_Nw (Jvm.Cond.methodLinkNest "PartitionKernel$Partition" (103 : Nat) ({ cls := "PartitionKernel", name := "isSpan", desc := "(I)Z" } : Jvm.MethodName) "PartitionKernel") U ∧ va_Nw (Jvm.Cond.methodLinkNest "PartitionKernel$Partition" (109 : Nat) ({ cls := "PartitionKernel", name := "isPriority", desc := "(I)Z" } : Jvm.MethodName) "PartitionKernel") U
theorem pX_ao4 : ∀ s : State, pg_X s → va_AO "PartitionKernel$Partition" s := fun _ h => h.1
theorem pX_ao5 : ∀ s : State, pg_X s → va_AO "PartitionKernel$Channel" s := fun _ h => h.2.1
theorem pX_ao6 : ∀ s : State, pg_X s → va_AO "PartitionKernel$Proc" s := fun _ h => h.2.2.1
theorem pX_75 : ∀ s : State, pg_X s → va_Nw (Jvm.Cond.methodLinkNest "PartitionKernel" (23 : Nat) ({ cls := "PartitionKernel$Frame", name := "<init>", desc := "()V" } : Jvm.MethodName) "PartitionKernel") s := fun _ h => h.2.2.2.1
theorem pX_99 : ∀ s : State, pg_X s → va_Nw (Jvm.Cond.methodLinkNest "PartitionKernel" (30 : Nat) ({ cls := "PartitionKernel$ErrorLog", name := "<init>", desc := "()V" } : Jvm.MethodName) "PartitionKernel") s := fun _ h => h.2.2.2.2.1
theorem pX_133 : ∀ s : State, pg_X s → va_Nw (Jvm.Cond.methodLinkNest "PartitionKernel$Partition" (11 : Nat) ({ cls := "PartitionKernel$Memory", name := "<init>", desc := "()V" } : Jvm.MethodName) "PartitionKernel") s := fun _ h => h.2.2.2.2.2.1
theorem pX_242 : ∀ s : State, pg_X s → va_Nw (Jvm.Cond.methodLinkNest "PartitionKernel" (38 : Nat) ({ cls := "PartitionKernel$Channel", name := "<init>", desc := "()V" } : Jvm.MethodName) "PartitionKernel") s := fun _ h => h.2.2.2.2.2.2.1
theorem pX_750 : ∀ s : State, pg_X s → va_Nw (Jvm.Cond.methodLinkNest "PartitionKernel$Partition" (103 : Nat) ({ cls := "PartitionKernel", name := "isSpan", desc := "(I)Z" } : Jvm.MethodName) "PartitionKernel") s := fun _ h => h.2.2.2.2.2.2.2.1
theorem pX_760 : ∀ s : State, pg_X s → va_Nw (Jvm.Cond.methodLinkNest "PartitionKernel$Partition" (109 : Nat) ({ cls := "PartitionKernel", name := "isPriority", desc := "(I)Z" } : Jvm.MethodName) "PartitionKernel") s := fun _ h => h.2.2.2.2.2.2.2.2
theorem pX_warm : ∀ u U : State, u.WarmedH U.vm → pg_X u → pg_X U := fun u U hW h => ⟨h.1.moved hW.alike, h.2.1.moved hW.alike, h.2.2.1.moved hW.alike, (pX_75 u h).warmM hW, (pX_99 u h).warmM hW, (pX_133 u h).warmM hW, (pX_242 u h).warmM hW, (pX_750 u h).warmM hW, (pX_760 u h).warmM hW⟩
theorem oku_0 (mi : Nat) : ∀ w ∈ u_ws "PartitionKernel$Channel" pg_T0 8, w ∈ mq_ws pg_Z mi := by
  intro w hw
  obtain ⟨j, hj, rfl⟩ := List.mem_map.mp hw
  have hj := List.mem_range.mp hj
  match j, hj with
  | 0, _ => exact gw_257 mi
  | 1, _ => exact gw_259 mi
  | 2, _ => exact gw_261 mi
  | 3, _ => exact gw_263 mi
  | 4, _ => exact gw_265 mi
  | 5, _ => exact gw_267 mi
  | 6, _ => exact gw_269 mi
  | 7, _ => exact gw_271 mi
theorem okc_0 (cA : Nat → ClassId) (mi : Nat) : mq_okc (mq_ws pg_Z mi) pg_cl (pg_E cA) 0 "PartitionKernel$Channel" pg_T0 8 pg_t0 :=
  ⟨rfl, rfl, oku_0 mi, by decide +kernel, by decide +kernel, by decide +kernel⟩
theorem oku_1 (mi : Nat) : ∀ w ∈ u_ws "PartitionKernel$ErrorLog" pg_T1 7, w ∈ mq_ws pg_Z mi := by
  intro w hw
  obtain ⟨j, hj, rfl⟩ := List.mem_map.mp hw
  have hj := List.mem_range.mp hj
  match j, hj with
  | 0, _ => exact gw_111 mi
  | 1, _ => exact gw_113 mi
  | 2, _ => exact gw_115 mi
  | 3, _ => exact gw_117 mi
  | 4, _ => exact gw_119 mi
  | 5, _ => exact gw_121 mi
  | 6, _ => exact gw_123 mi
theorem okc_1 (cA : Nat → ClassId) (mi : Nat) : mq_okc (mq_ws pg_Z mi) pg_cl (pg_E cA) 1 "PartitionKernel$ErrorLog" pg_T1 7 pg_t1 :=
  ⟨rfl, rfl, oku_1 mi, by decide +kernel, by decide +kernel, by decide +kernel⟩
theorem oku_2 (mi : Nat) : ∀ w ∈ u_ws "PartitionKernel$Frame" pg_T2 5, w ∈ mq_ws pg_Z mi := by
  intro w hw
  obtain ⟨j, hj, rfl⟩ := List.mem_map.mp hw
  have hj := List.mem_range.mp hj
  match j, hj with
  | 0, _ => exact gw_85 mi
  | 1, _ => exact gw_87 mi
  | 2, _ => exact gw_89 mi
  | 3, _ => exact gw_91 mi
  | 4, _ => exact gw_93 mi
theorem okc_2 (cA : Nat → ClassId) (mi : Nat) : mq_okc (mq_ws pg_Z mi) pg_cl (pg_E cA) 2 "PartitionKernel$Frame" pg_T2 5 pg_t2 :=
  ⟨rfl, rfl, oku_2 mi, by decide +kernel, by decide +kernel, by decide +kernel⟩
theorem oku_3 (mi : Nat) : ∀ w ∈ u_ws "PartitionKernel$Memory" pg_T3 1, w ∈ mq_ws pg_Z mi := by
  intro w hw
  obtain ⟨j, hj, rfl⟩ := List.mem_map.mp hw
  have hj := List.mem_range.mp hj
  match j, hj with
  | 0, _ => exact gw_138 mi
theorem okc_3 (cA : Nat → ClassId) (mi : Nat) : mq_okc (mq_ws pg_Z mi) pg_cl (pg_E cA) 3 "PartitionKernel$Memory" pg_T3 1 pg_t3 :=
  ⟨rfl, rfl, oku_3 mi, by decide +kernel, by decide +kernel, by decide +kernel⟩
theorem oku_4 (mi : Nat) : ∀ w ∈ u_ws "PartitionKernel$Partition" pg_T4 9, w ∈ mq_ws pg_Z mi := by
  intro w hw
  obtain ⟨j, hj, rfl⟩ := List.mem_map.mp hw
  have hj := List.mem_range.mp hj
  match j, hj with
  | 0, _ => exact gw_222 mi
  | 1, _ => exact gw_224 mi
  | 2, _ => exact gw_226 mi
  | 3, _ => exact gw_228 mi
  | 4, _ => exact gw_230 mi
  | 5, _ => exact gw_232 mi
  | 6, _ => exact gw_234 mi
  | 7, _ => exact gw_236 mi
  | 8, _ => exact gw_238 mi
theorem okc_4 (cA : Nat → ClassId) (mi : Nat) : mq_okc (mq_ws pg_Z mi) pg_cl (pg_E cA) 4 "PartitionKernel$Partition" pg_T4 9 pg_t4 :=
  ⟨rfl, rfl, oku_4 mi, by decide +kernel, by decide +kernel, by decide +kernel⟩
theorem oku_5 (mi : Nat) : ∀ w ∈ u_ws "PartitionKernel$Proc" pg_T5 14, w ∈ mq_ws pg_Z mi := by
  intro w hw
  obtain ⟨j, hj, rfl⟩ := List.mem_map.mp hw
  have hj := List.mem_range.mp hj
  match j, hj with
  | 0, _ => exact gw_177 mi
  | 1, _ => exact gw_179 mi
  | 2, _ => exact gw_181 mi
  | 3, _ => exact gw_183 mi
  | 4, _ => exact gw_185 mi
  | 5, _ => exact gw_187 mi
  | 6, _ => exact gw_189 mi
  | 7, _ => exact gw_191 mi
  | 8, _ => exact gw_193 mi
  | 9, _ => exact gw_195 mi
  | 10, _ => exact gw_197 mi
  | 11, _ => exact gw_199 mi
  | 12, _ => exact gw_201 mi
  | 13, _ => exact gw_203 mi
theorem okc_5 (cA : Nat → ClassId) (mi : Nat) : mq_okc (mq_ws pg_Z mi) pg_cl (pg_E cA) 5 "PartitionKernel$Proc" pg_T5 14 pg_t5 :=
  ⟨rfl, rfl, oku_5 mi, by decide +kernel, by decide +kernel, by decide +kernel⟩
theorem oku_6 (mi : Nat) : ∀ w ∈ u_ws "PartitionKernel" pg_T6 8, w ∈ mq_ws pg_Z mi := by
  intro w hw
  obtain ⟨j, hj, rfl⟩ := List.mem_map.mp hw
  have hj := List.mem_range.mp hj
  match j, hj with
  | 0, _ => exact gw_282 mi
  | 1, _ => exact gw_284 mi
  | 2, _ => exact gw_286 mi
  | 3, _ => exact gw_288 mi
  | 4, _ => exact gw_290 mi
  | 5, _ => exact gw_292 mi
  | 6, _ => exact gw_294 mi
  | 7, _ => exact gw_296 mi
theorem okc_6 (cA : Nat → ClassId) (mi : Nat) : mq_okc (mq_ws pg_Z mi) pg_cl (pg_E cA) 6 "PartitionKernel" pg_T6 8 pg_t6 :=
  ⟨rfl, rfl, oku_6 mi, by decide +kernel, by decide +kernel, by decide +kernel⟩
theorem oku_7 (mi : Nat) : ∀ w ∈ u_ws "PartitionKernelModel" pg_T7 44, w ∈ mq_ws pg_Z mi := by
  intro w hw
  obtain ⟨j, hj, rfl⟩ := List.mem_map.mp hw
  have hj := List.mem_range.mp hj
  match j, hj with
  | 0, _ => exact gw_840 mi
  | 1, _ => exact gw_842 mi
  | 2, _ => exact gw_844 mi
  | 3, _ => exact gw_846 mi
  | 4, _ => exact gw_848 mi
  | 5, _ => exact gw_850 mi
  | 6, _ => exact gw_852 mi
  | 7, _ => exact gw_854 mi
  | 8, _ => exact gw_856 mi
  | 9, _ => exact gw_858 mi
  | 10, _ => exact gw_860 mi
  | 11, _ => exact gw_862 mi
  | 12, _ => exact gw_864 mi
  | 13, _ => exact gw_866 mi
  | 14, _ => exact gw_868 mi
  | 15, _ => exact gw_870 mi
  | 16, _ => exact gw_872 mi
  | 17, _ => exact gw_874 mi
  | 18, _ => exact gw_876 mi
  | 19, _ => exact gw_878 mi
  | 20, _ => exact gw_880 mi
  | 21, _ => exact gw_882 mi
  | 22, _ => exact gw_884 mi
  | 23, _ => exact gw_886 mi
  | 24, _ => exact gw_888 mi
  | 25, _ => exact gw_890 mi
  | 26, _ => exact gw_892 mi
  | 27, _ => exact gw_894 mi
  | 28, _ => exact gw_896 mi
  | 29, _ => exact gw_898 mi
  | 30, _ => exact gw_900 mi
  | 31, _ => exact gw_902 mi
  | 32, _ => exact gw_904 mi
  | 33, _ => exact gw_906 mi
  | 34, _ => exact gw_908 mi
  | 35, _ => exact gw_910 mi
  | 36, _ => exact gw_912 mi
  | 37, _ => exact gw_914 mi
  | 38, _ => exact gw_916 mi
  | 39, _ => exact gw_918 mi
  | 40, _ => exact gw_920 mi
  | 41, _ => exact gw_922 mi
  | 42, _ => exact gw_924 mi
  | 43, _ => exact gw_926 mi
theorem okc_7 (cA : Nat → ClassId) (mi : Nat) : mq_okc (mq_ws pg_Z mi) pg_cl (pg_E cA) 7 "PartitionKernelModel" pg_T7 44 pg_t7 :=
  ⟨rfl, rfl, oku_7 mi, by decide +kernel, by decide +kernel, by decide +kernel⟩
theorem okg_of {big : List Cond} (a : Nat) (hG : ∀ w ∈ pg_G, w ∈ big) (hc : Jvm.Cond.code (pg_Z.1 a) (pg_Z.2.1 a) (pg_Z.2.2.1 a) (pg_Z.2.2.2.1 a) ∈ pg_G) : GoodIn big (mq_ws pg_Z a) := by
  intro w hw
  rcases List.mem_cons.mp hw with h | h
  · rw [h]; exact ⟨hG _ hc, good_of_word (List.mem_filter.mp hc).2⟩
  · exact ⟨hG _ h, good_of_word (List.mem_filter.mp h).2⟩
theorem okg_code : ∀ a, a < 158 → (pg_m a).1.cls ≠ "PartitionKernelLaw" → Jvm.Cond.code (pg_Z.1 a) (pg_Z.2.1 a) (pg_Z.2.2.1 a) (pg_Z.2.2.2.1 a) ∈ pg_G := by
  intro a ha hl
  match a, ha with
  | 0, _ => exact List.mem_filter.mpr ⟨List.mem_of_getElem? (i := 641) (by decide +kernel), by decide +kernel⟩
  | 1, _ => exact List.mem_filter.mpr ⟨List.mem_of_getElem? (i := 244) (by decide +kernel), by decide +kernel⟩
  | 2, _ => exact List.mem_filter.mpr ⟨List.mem_of_getElem? (i := 551) (by decide +kernel), by decide +kernel⟩
  | 3, _ => exact List.mem_filter.mpr ⟨List.mem_of_getElem? (i := 776) (by decide +kernel), by decide +kernel⟩
  | 4, _ => exact List.mem_filter.mpr ⟨List.mem_of_getElem? (i := 785) (by decide +kernel), by decide +kernel⟩
  | 5, _ => exact List.mem_filter.mpr ⟨List.mem_of_getElem? (i := 383) (by decide +kernel), by decide +kernel⟩
  | 6, _ => exact List.mem_filter.mpr ⟨List.mem_of_getElem? (i := 375) (by decide +kernel), by decide +kernel⟩
  | 7, _ => exact List.mem_filter.mpr ⟨List.mem_of_getElem? (i := 387) (by decide +kernel), by decide +kernel⟩
  | 8, _ => exact List.mem_filter.mpr ⟨List.mem_of_getElem? (i := 101) (by decide +kernel), by decide +kernel⟩
  | 9, _ => exact List.mem_filter.mpr ⟨List.mem_of_getElem? (i := 638) (by decide +kernel), by decide +kernel⟩
  | 10, _ => exact List.mem_filter.mpr ⟨List.mem_of_getElem? (i := 395) (by decide +kernel), by decide +kernel⟩
  | 11, _ => exact List.mem_filter.mpr ⟨List.mem_of_getElem? (i := 77) (by decide +kernel), by decide +kernel⟩
  | 12, _ => exact List.mem_filter.mpr ⟨List.mem_of_getElem? (i := 501) (by decide +kernel), by decide +kernel⟩
  | 13, _ => exact List.mem_filter.mpr ⟨List.mem_of_getElem? (i := 403) (by decide +kernel), by decide +kernel⟩
  | 14, _ => exact List.mem_filter.mpr ⟨List.mem_of_getElem? (i := 789) (by decide +kernel), by decide +kernel⟩
  | 15, _ => exact List.mem_filter.mpr ⟨List.mem_of_getElem? (i := 135) (by decide +kernel), by decide +kernel⟩
  | 16, _ => exact List.mem_filter.mpr ⟨List.mem_of_getElem? (i := 316) (by decide +kernel), by decide +kernel⟩
  | 17, _ => exact List.mem_filter.mpr ⟨List.mem_of_getElem? (i := 313) (by decide +kernel), by decide +kernel⟩
  | 18, _ => exact List.mem_filter.mpr ⟨List.mem_of_getElem? (i := 573) (by decide +kernel), by decide +kernel⟩
  | 19, _ => exact List.mem_filter.mpr ⟨List.mem_of_getElem? (i := 702) (by decide +kernel), by decide +kernel⟩
  | 20, _ => exact List.mem_filter.mpr ⟨List.mem_of_getElem? (i := 720) (by decide +kernel), by decide +kernel⟩
  | 21, _ => exact List.mem_filter.mpr ⟨List.mem_of_getElem? (i := 706) (by decide +kernel), by decide +kernel⟩
  | 22, _ => exact List.mem_filter.mpr ⟨List.mem_of_getElem? (i := 129) (by decide +kernel), by decide +kernel⟩
  | 23, _ => exact List.mem_filter.mpr ⟨List.mem_of_getElem? (i := 536) (by decide +kernel), by decide +kernel⟩
  | 24, _ => exact List.mem_filter.mpr ⟨List.mem_of_getElem? (i := 328) (by decide +kernel), by decide +kernel⟩
  | 25, _ => exact List.mem_filter.mpr ⟨List.mem_of_getElem? (i := 645) (by decide +kernel), by decide +kernel⟩
  | 26, _ => exact List.mem_filter.mpr ⟨List.mem_of_getElem? (i := 348) (by decide +kernel), by decide +kernel⟩
  | 27, _ => exact List.mem_filter.mpr ⟨List.mem_of_getElem? (i := 589) (by decide +kernel), by decide +kernel⟩
  | 28, _ => exact List.mem_filter.mpr ⟨List.mem_of_getElem? (i := 585) (by decide +kernel), by decide +kernel⟩
  | 29, _ => exact List.mem_filter.mpr ⟨List.mem_of_getElem? (i := 649) (by decide +kernel), by decide +kernel⟩
  | 30, _ => exact List.mem_filter.mpr ⟨List.mem_of_getElem? (i := 618) (by decide +kernel), by decide +kernel⟩
  | 31, _ => exact List.mem_filter.mpr ⟨List.mem_of_getElem? (i := 356) (by decide +kernel), by decide +kernel⟩
  | 32, _ => exact List.mem_filter.mpr ⟨List.mem_of_getElem? (i := 745) (by decide +kernel), by decide +kernel⟩
  | 33, _ => exact List.mem_filter.mpr ⟨List.mem_of_getElem? (i := 749) (by decide +kernel), by decide +kernel⟩
  | 34, _ => exact List.mem_filter.mpr ⟨List.mem_of_getElem? (i := 754) (by decide +kernel), by decide +kernel⟩
  | 35, _ => exact List.mem_filter.mpr ⟨List.mem_of_getElem? (i := 759) (by decide +kernel), by decide +kernel⟩
  | 36, _ => exact List.mem_filter.mpr ⟨List.mem_of_getElem? (i := 764) (by decide +kernel), by decide +kernel⟩
  | 37, _ => exact List.mem_filter.mpr ⟨List.mem_of_getElem? (i := 768) (by decide +kernel), by decide +kernel⟩
  | 38, _ => exact List.mem_filter.mpr ⟨List.mem_of_getElem? (i := 352) (by decide +kernel), by decide +kernel⟩
  | 39, _ => exact List.mem_filter.mpr ⟨List.mem_of_getElem? (i := 363) (by decide +kernel), by decide +kernel⟩
  | 40, _ => exact List.mem_filter.mpr ⟨List.mem_of_getElem? (i := 622) (by decide +kernel), by decide +kernel⟩
  | 41, _ => exact List.mem_filter.mpr ⟨List.mem_of_getElem? (i := 601) (by decide +kernel), by decide +kernel⟩
  | 42, _ => exact List.mem_filter.mpr ⟨List.mem_of_getElem? (i := 146) (by decide +kernel), by decide +kernel⟩
  | 43, _ => exact List.mem_filter.mpr ⟨List.mem_of_getElem? (i := 332) (by decide +kernel), by decide +kernel⟩
  | 44, _ => exact List.mem_filter.mpr ⟨List.mem_of_getElem? (i := 666) (by decide +kernel), by decide +kernel⟩
  | 45, _ => exact List.mem_filter.mpr ⟨List.mem_of_getElem? (i := 593) (by decide +kernel), by decide +kernel⟩
  | 46, _ => exact List.mem_filter.mpr ⟨List.mem_of_getElem? (i := 597) (by decide +kernel), by decide +kernel⟩
  | 47, _ => exact List.mem_filter.mpr ⟨List.mem_of_getElem? (i := 630) (by decide +kernel), by decide +kernel⟩
  | 48, _ => exact List.mem_filter.mpr ⟨List.mem_of_getElem? (i := 360) (by decide +kernel), by decide +kernel⟩
  | 49, _ => exact List.mem_filter.mpr ⟨List.mem_of_getElem? (i := 340) (by decide +kernel), by decide +kernel⟩
  | 50, _ => exact List.mem_filter.mpr ⟨List.mem_of_getElem? (i := 654) (by decide +kernel), by decide +kernel⟩
  | 51, _ => exact List.mem_filter.mpr ⟨List.mem_of_getElem? (i := 662) (by decide +kernel), by decide +kernel⟩
  | 52, _ => exact List.mem_filter.mpr ⟨List.mem_of_getElem? (i := 672) (by decide +kernel), by decide +kernel⟩
  | 53, _ => exact List.mem_filter.mpr ⟨List.mem_of_getElem? (i := 685) (by decide +kernel), by decide +kernel⟩
  | 54, _ => exact List.mem_filter.mpr ⟨List.mem_of_getElem? (i := 698) (by decide +kernel), by decide +kernel⟩
  | 55, _ => exact List.mem_filter.mpr ⟨List.mem_of_getElem? (i := 709) (by decide +kernel), by decide +kernel⟩
  | 56, _ => exact List.mem_filter.mpr ⟨List.mem_of_getElem? (i := 713) (by decide +kernel), by decide +kernel⟩
  | 57, _ => exact List.mem_filter.mpr ⟨List.mem_of_getElem? (i := 724) (by decide +kernel), by decide +kernel⟩
  | 58, _ => exact List.mem_filter.mpr ⟨List.mem_of_getElem? (i := 733) (by decide +kernel), by decide +kernel⟩
  | 59, _ => exact List.mem_filter.mpr ⟨List.mem_of_getElem? (i := 730) (by decide +kernel), by decide +kernel⟩
  | 60, _ => exact List.mem_filter.mpr ⟨List.mem_of_getElem? (i := 691) (by decide +kernel), by decide +kernel⟩
  | 61, _ => exact List.mem_filter.mpr ⟨List.mem_of_getElem? (i := 675) (by decide +kernel), by decide +kernel⟩
  | 62, _ => exact List.mem_filter.mpr ⟨List.mem_of_getElem? (i := 727) (by decide +kernel), by decide +kernel⟩
  | 63, _ => exact List.mem_filter.mpr ⟨List.mem_of_getElem? (i := 678) (by decide +kernel), by decide +kernel⟩
  | 64, _ => exact List.mem_filter.mpr ⟨List.mem_of_getElem? (i := 688) (by decide +kernel), by decide +kernel⟩
  | 65, _ => exact List.mem_filter.mpr ⟨List.mem_of_getElem? (i := 682) (by decide +kernel), by decide +kernel⟩
  | 66, _ => exact List.mem_filter.mpr ⟨List.mem_of_getElem? (i := 659) (by decide +kernel), by decide +kernel⟩
  | 67, _ => exact List.mem_filter.mpr ⟨List.mem_of_getElem? (i := 716) (by decide +kernel), by decide +kernel⟩
  | 68, _ => exact List.mem_filter.mpr ⟨List.mem_of_getElem? (i := 669) (by decide +kernel), by decide +kernel⟩
  | 69, _ => exact List.mem_filter.mpr ⟨List.mem_of_getElem? (i := 695) (by decide +kernel), by decide +kernel⟩
  | 70, _ => exact List.mem_filter.mpr ⟨List.mem_of_getElem? (i := 65) (by decide +kernel), by decide +kernel⟩
  | 71, _ => exact List.mem_filter.mpr ⟨List.mem_of_getElem? (i := 413) (by decide +kernel), by decide +kernel⟩
  | 72, _ => exact List.mem_filter.mpr ⟨List.mem_of_getElem? (i := 524) (by decide +kernel), by decide +kernel⟩
  | 73, _ => exact List.mem_filter.mpr ⟨List.mem_of_getElem? (i := 544) (by decide +kernel), by decide +kernel⟩
  | 74, _ => exact List.mem_filter.mpr ⟨List.mem_of_getElem? (i := 558) (by decide +kernel), by decide +kernel⟩
  | 75, _ => exact List.mem_filter.mpr ⟨List.mem_of_getElem? (i := 567) (by decide +kernel), by decide +kernel⟩
  | 76, _ => exact List.mem_filter.mpr ⟨List.mem_of_getElem? (i := 580) (by decide +kernel), by decide +kernel⟩
  | 77, _ => exact List.mem_filter.mpr ⟨List.mem_of_getElem? (i := 608) (by decide +kernel), by decide +kernel⟩
  | 78, _ => exact List.mem_filter.mpr ⟨List.mem_of_getElem? (i := 302) (by decide +kernel), by decide +kernel⟩
  | 79, _ => exact List.mem_filter.mpr ⟨List.mem_of_getElem? (i := 320) (by decide +kernel), by decide +kernel⟩
  | 80, _ => exact List.mem_filter.mpr ⟨List.mem_of_getElem? (i := 336) (by decide +kernel), by decide +kernel⟩
  | 81, _ => exact List.mem_filter.mpr ⟨List.mem_of_getElem? (i := 344) (by decide +kernel), by decide +kernel⟩
  | 82, _ => exact List.mem_filter.mpr ⟨List.mem_of_getElem? (i := 367) (by decide +kernel), by decide +kernel⟩
  | 83, _ => exact List.mem_filter.mpr ⟨List.mem_of_getElem? (i := 379) (by decide +kernel), by decide +kernel⟩
  | 84, _ => exact List.mem_filter.mpr ⟨List.mem_of_getElem? (i := 391) (by decide +kernel), by decide +kernel⟩
  | 85, _ => exact List.mem_filter.mpr ⟨List.mem_of_getElem? (i := 399) (by decide +kernel), by decide +kernel⟩
  | 86, _ => exact List.mem_filter.mpr ⟨List.mem_of_getElem? (i := 309) (by decide +kernel), by decide +kernel⟩
  | 87, _ => exact List.mem_filter.mpr ⟨List.mem_of_getElem? (i := 527) (by decide +kernel), by decide +kernel⟩
  | 88, _ => exact List.mem_filter.mpr ⟨List.mem_of_getElem? (i := 530) (by decide +kernel), by decide +kernel⟩
  | 89, _ => exact List.mem_filter.mpr ⟨List.mem_of_getElem? (i := 306) (by decide +kernel), by decide +kernel⟩
  | 90, _ => exact List.mem_filter.mpr ⟨List.mem_of_getElem? (i := 324) (by decide +kernel), by decide +kernel⟩
  | 91, _ => exact List.mem_filter.mpr ⟨List.mem_of_getElem? (i := 371) (by decide +kernel), by decide +kernel⟩
  | 92, _ => exact List.mem_filter.mpr ⟨List.mem_of_getElem? (i := 614) (by decide +kernel), by decide +kernel⟩
  | 93, _ => exact List.mem_filter.mpr ⟨List.mem_of_getElem? (i := 626) (by decide +kernel), by decide +kernel⟩
  | 94, _ => exact List.mem_filter.mpr ⟨List.mem_of_getElem? (i := 634) (by decide +kernel), by decide +kernel⟩
  | 95, _ => exact List.mem_filter.mpr ⟨List.mem_of_getElem? (i := 737) (by decide +kernel), by decide +kernel⟩
  | 96, _ => exact List.mem_filter.mpr ⟨List.mem_of_getElem? (i := 741) (by decide +kernel), by decide +kernel⟩
  | 97, _ => exact List.mem_filter.mpr ⟨List.mem_of_getElem? (i := 772) (by decide +kernel), by decide +kernel⟩
  | 98, _ => exact List.mem_filter.mpr ⟨List.mem_of_getElem? (i := 780) (by decide +kernel), by decide +kernel⟩
  | 99, _ => exact List.mem_filter.mpr ⟨List.mem_of_getElem? (i := 794) (by decide +kernel), by decide +kernel⟩
  | 100, _ => exact List.mem_filter.mpr ⟨List.mem_of_getElem? (i := 933) (by decide +kernel), by decide +kernel⟩
  | 101, _ => exact List.mem_filter.mpr ⟨List.mem_of_getElem? (i := 940) (by decide +kernel), by decide +kernel⟩
  | 102, _ => exact List.mem_filter.mpr ⟨List.mem_of_getElem? (i := 976) (by decide +kernel), by decide +kernel⟩
  | 103, _ => exact List.mem_filter.mpr ⟨List.mem_of_getElem? (i := 972) (by decide +kernel), by decide +kernel⟩
  | 104, _ => exact List.mem_filter.mpr ⟨List.mem_of_getElem? (i := 1004) (by decide +kernel), by decide +kernel⟩
  | 105, _ => exact List.mem_filter.mpr ⟨List.mem_of_getElem? (i := 1008) (by decide +kernel), by decide +kernel⟩
  | 106, _ => exact List.mem_filter.mpr ⟨List.mem_of_getElem? (i := 1000) (by decide +kernel), by decide +kernel⟩
  | 107, _ => exact List.mem_filter.mpr ⟨List.mem_of_getElem? (i := 960) (by decide +kernel), by decide +kernel⟩
  | 108, _ => exact List.mem_filter.mpr ⟨List.mem_of_getElem? (i := 1016) (by decide +kernel), by decide +kernel⟩
  | 109, _ => exact List.mem_filter.mpr ⟨List.mem_of_getElem? (i := 964) (by decide +kernel), by decide +kernel⟩
  | 110, _ => exact List.mem_filter.mpr ⟨List.mem_of_getElem? (i := 1023) (by decide +kernel), by decide +kernel⟩
  | 111, _ => exact List.mem_filter.mpr ⟨List.mem_of_getElem? (i := 1037) (by decide +kernel), by decide +kernel⟩
  | 112, _ => exact List.mem_filter.mpr ⟨List.mem_of_getElem? (i := 1027) (by decide +kernel), by decide +kernel⟩
  | 113, _ => exact List.mem_filter.mpr ⟨List.mem_of_getElem? (i := 1042) (by decide +kernel), by decide +kernel⟩
  | 114, _ => exact List.mem_filter.mpr ⟨List.mem_of_getElem? (i := 1046) (by decide +kernel), by decide +kernel⟩
  | 115, _ => exact List.mem_filter.mpr ⟨List.mem_of_getElem? (i := 1034) (by decide +kernel), by decide +kernel⟩
  | 116, _ => exact List.mem_filter.mpr ⟨List.mem_of_getElem? (i := 1053) (by decide +kernel), by decide +kernel⟩
  | 117, _ => exact List.mem_filter.mpr ⟨List.mem_of_getElem? (i := 1031) (by decide +kernel), by decide +kernel⟩
  | 118, _ => exact List.mem_filter.mpr ⟨List.mem_of_getElem? (i := 1050) (by decide +kernel), by decide +kernel⟩
  | 119, _ => exact List.mem_filter.mpr ⟨List.mem_of_getElem? (i := 1020) (by decide +kernel), by decide +kernel⟩
  | 120, _ => exact List.mem_filter.mpr ⟨List.mem_of_getElem? (i := 1065) (by decide +kernel), by decide +kernel⟩
  | 121, _ => exact List.mem_filter.mpr ⟨List.mem_of_getElem? (i := 1061) (by decide +kernel), by decide +kernel⟩
  | 122, _ => exact List.mem_filter.mpr ⟨List.mem_of_getElem? (i := 1069) (by decide +kernel), by decide +kernel⟩
  | 123, _ => exact List.mem_filter.mpr ⟨List.mem_of_getElem? (i := 1073) (by decide +kernel), by decide +kernel⟩
  | 124, _ => exact List.mem_filter.mpr ⟨List.mem_of_getElem? (i := 1077) (by decide +kernel), by decide +kernel⟩
  | 125, _ => exact List.mem_filter.mpr ⟨List.mem_of_getElem? (i := 1081) (by decide +kernel), by decide +kernel⟩
  | 126, _ => exact List.mem_filter.mpr ⟨List.mem_of_getElem? (i := 1085) (by decide +kernel), by decide +kernel⟩
  | 127, _ => exact List.mem_filter.mpr ⟨List.mem_of_getElem? (i := 1089) (by decide +kernel), by decide +kernel⟩
  | 128, _ => exact List.mem_filter.mpr ⟨List.mem_of_getElem? (i := 1093) (by decide +kernel), by decide +kernel⟩
  | 129, _ => exact List.mem_filter.mpr ⟨List.mem_of_getElem? (i := 1057) (by decide +kernel), by decide +kernel⟩
  | 130, _ => exact List.mem_filter.mpr ⟨List.mem_of_getElem? (i := 988) (by decide +kernel), by decide +kernel⟩
  | 131, _ => exact List.mem_filter.mpr ⟨List.mem_of_getElem? (i := 992) (by decide +kernel), by decide +kernel⟩
  | 132, _ => exact List.mem_filter.mpr ⟨List.mem_of_getElem? (i := 996) (by decide +kernel), by decide +kernel⟩
  | 133, _ => exact List.mem_filter.mpr ⟨List.mem_of_getElem? (i := 1012) (by decide +kernel), by decide +kernel⟩
  | 134, _ => exact List.mem_filter.mpr ⟨List.mem_of_getElem? (i := 984) (by decide +kernel), by decide +kernel⟩
  | 135, _ => exact List.mem_filter.mpr ⟨List.mem_of_getElem? (i := 937) (by decide +kernel), by decide +kernel⟩
  | 136, _ => exact List.mem_filter.mpr ⟨List.mem_of_getElem? (i := 944) (by decide +kernel), by decide +kernel⟩
  | 137, _ => exact List.mem_filter.mpr ⟨List.mem_of_getElem? (i := 949) (by decide +kernel), by decide +kernel⟩
  | 138, _ => exact List.mem_filter.mpr ⟨List.mem_of_getElem? (i := 953) (by decide +kernel), by decide +kernel⟩
  | 139, _ => exact List.mem_filter.mpr ⟨List.mem_of_getElem? (i := 957) (by decide +kernel), by decide +kernel⟩
  | 140, _ => exact List.mem_filter.mpr ⟨List.mem_of_getElem? (i := 968) (by decide +kernel), by decide +kernel⟩
  | 141, _ => exact List.mem_filter.mpr ⟨List.mem_of_getElem? (i := 980) (by decide +kernel), by decide +kernel⟩
  | 142, _ => exact List.mem_filter.mpr ⟨List.mem_of_getElem? (i := 1097) (by decide +kernel), by decide +kernel⟩
  | 143, _ => exact List.mem_filter.mpr ⟨List.mem_of_getElem? (i := 1105) (by decide +kernel), by decide +kernel⟩
  | 144, _ => exact List.mem_filter.mpr ⟨List.mem_of_getElem? (i := 1101) (by decide +kernel), by decide +kernel⟩
  | 145, _ => exact List.mem_filter.mpr ⟨List.mem_of_getElem? (i := 1109) (by decide +kernel), by decide +kernel⟩
  | 146, _ => exact List.mem_filter.mpr ⟨List.mem_of_getElem? (i := 1113) (by decide +kernel), by decide +kernel⟩
  | 147, _ => exact List.mem_filter.mpr ⟨List.mem_of_getElem? (i := 1117) (by decide +kernel), by decide +kernel⟩
  | 148, _ => exact List.mem_filter.mpr ⟨List.mem_of_getElem? (i := 1121) (by decide +kernel), by decide +kernel⟩
  | 149, _ => exact List.mem_filter.mpr ⟨List.mem_of_getElem? (i := 1125) (by decide +kernel), by decide +kernel⟩
  | 150, _ => exact List.mem_filter.mpr ⟨List.mem_of_getElem? (i := 1129) (by decide +kernel), by decide +kernel⟩
  | 151, _ => exact absurd rfl hl
  | 152, _ => exact absurd rfl hl
  | 153, _ => exact absurd rfl hl
  | 154, _ => exact absurd rfl hl
  | 155, _ => exact absurd rfl hl
  | 156, _ => exact absurd rfl hl
  | 157, _ => exact absurd rfl hl
theorem okg (a mi : Nat) (ha : decide (a < 158 ∧ (pg_m a).1.cls ≠ "PartitionKernelLaw") = true) : GoodIn (mq_ws pg_Z mi) (mq_ws pg_Z a) :=
  okg_of a (fun _ h => List.mem_cons_of_mem _ h) (okg_code a (of_decide_eq_true ha).1 (of_decide_eq_true ha).2)
-- switch 1
-- switch 2
-- switch 3
-- switch 5
-- switch 6
-- switch 7
-- switch 8
-- switch 9
-- switch 10
-- switch 11
-- switch 12
-- switch 13
-- switch 15
