/-! THE LAW, over the machine; by program (wip/whole/tools/gen5.py). -/
theorem lt_62 : (Jvm.Cond.instantiable "PartitionKernel" (8 : Nat)) ∈ lw_tbl := List.mem_of_getElem? (i := 62) (by decide +kernel)
theorem lt_70 : (Jvm.Cond.arrayOver (Jvm.ClassFile.FieldType.object "PartitionKernel$Partition")) ∈ lw_tbl := List.mem_of_getElem? (i := 70) (by decide +kernel)
theorem lt_72 : (Jvm.Cond.arrayOver (Jvm.ClassFile.FieldType.object "PartitionKernel$Channel")) ∈ lw_tbl := List.mem_of_getElem? (i := 72) (by decide +kernel)
theorem lt_74 : (Jvm.Cond.instantiable "PartitionKernel$Frame" (5 : Nat)) ∈ lw_tbl := List.mem_of_getElem? (i := 74) (by decide +kernel)
theorem lt_75 : (Jvm.Cond.methodLinkNest "PartitionKernel" (23 : Nat) ({ cls := "PartitionKernel$Frame", name := "<init>", desc := "()V" } : Jvm.MethodName) "PartitionKernel") ∈ lw_tbl := List.mem_of_getElem? (i := 75) (by decide +kernel)
theorem lt_96 : (Jvm.Cond.arrayClass Jvm.ClassFile.FieldType.int) ∈ lw_tbl := List.mem_of_getElem? (i := 96) (by decide +kernel)
theorem lt_98 : (Jvm.Cond.instantiable "PartitionKernel$ErrorLog" (7 : Nat)) ∈ lw_tbl := List.mem_of_getElem? (i := 98) (by decide +kernel)
theorem lt_99 : (Jvm.Cond.methodLinkNest "PartitionKernel" (30 : Nat) ({ cls := "PartitionKernel$ErrorLog", name := "<init>", desc := "()V" } : Jvm.MethodName) "PartitionKernel") ∈ lw_tbl := List.mem_of_getElem? (i := 99) (by decide +kernel)
theorem lt_126 : (Jvm.Cond.instantiable "PartitionKernel$Partition" (9 : Nat)) ∈ lw_tbl := List.mem_of_getElem? (i := 126) (by decide +kernel)
theorem lt_132 : (Jvm.Cond.instantiable "PartitionKernel$Memory" (1 : Nat)) ∈ lw_tbl := List.mem_of_getElem? (i := 132) (by decide +kernel)
theorem lt_133 : (Jvm.Cond.methodLinkNest "PartitionKernel$Partition" (11 : Nat) ({ cls := "PartitionKernel$Memory", name := "<init>", desc := "()V" } : Jvm.MethodName) "PartitionKernel") ∈ lw_tbl := List.mem_of_getElem? (i := 133) (by decide +kernel)
theorem lt_142 : (Jvm.Cond.arrayOver (Jvm.ClassFile.FieldType.object "PartitionKernel$Proc")) ∈ lw_tbl := List.mem_of_getElem? (i := 142) (by decide +kernel)
theorem lt_143 : (Jvm.Cond.instantiable "PartitionKernel$Proc" (14 : Nat)) ∈ lw_tbl := List.mem_of_getElem? (i := 143) (by decide +kernel)
theorem lt_241 : (Jvm.Cond.instantiable "PartitionKernel$Channel" (8 : Nat)) ∈ lw_tbl := List.mem_of_getElem? (i := 241) (by decide +kernel)
theorem lt_242 : (Jvm.Cond.methodLinkNest "PartitionKernel" (38 : Nat) ({ cls := "PartitionKernel$Channel", name := "<init>", desc := "()V" } : Jvm.MethodName) "PartitionKernel") ∈ lw_tbl := List.mem_of_getElem? (i := 242) (by decide +kernel)
theorem lt_416 : (Jvm.Cond.castable "java/lang/IndexOutOfBoundsException" "java/lang/IndexOutOfBoundsException") ∈ lw_tbl := List.mem_of_getElem? (i := 416) (by decide +kernel)
theorem lt_418 : (Jvm.Cond.declares ({ cls := "java/lang/RuntimeException", name := "<init>", desc := "(Ljava/lang/String;)V" } : Jvm.MethodName)) ∈ lw_tbl := List.mem_of_getElem? (i := 418) (by decide +kernel)
theorem lt_420 : (Jvm.Cond.declares ({ cls := "java/lang/Exception", name := "<init>", desc := "(Ljava/lang/String;)V" } : Jvm.MethodName)) ∈ lw_tbl := List.mem_of_getElem? (i := 420) (by decide +kernel)
theorem lt_422 : (Jvm.Cond.declares ({ cls := "java/lang/Throwable", name := "<init>", desc := "(Ljava/lang/String;)V" } : Jvm.MethodName)) ∈ lw_tbl := List.mem_of_getElem? (i := 422) (by decide +kernel)
theorem lt_441 : (Jvm.Cond.laysStatic "java/lang/Throwable" "UNASSIGNED_STACK" "[Ljava/lang/StackTraceElement;") ∈ lw_tbl := List.mem_of_getElem? (i := 441) (by decide +kernel)
theorem lt_443 : (Jvm.Cond.laysStatic "java/lang/Throwable" "SUPPRESSED_SENTINEL" "Ljava/util/List;") ∈ lw_tbl := List.mem_of_getElem? (i := 443) (by decide +kernel)
theorem lt_455 : (Jvm.Cond.stringRef "PartitionKernel" (45 : Nat) "no such partition") ∈ lw_tbl := List.mem_of_getElem? (i := 455) (by decide +kernel)
theorem lt_481 : (Jvm.Cond.arrayClass Jvm.ClassFile.FieldType.byte) ∈ lw_tbl := List.mem_of_getElem? (i := 481) (by decide +kernel)
theorem lt_484 : (Jvm.Cond.castable "java/lang/IllegalArgumentException" "java/lang/IllegalArgumentException") ∈ lw_tbl := List.mem_of_getElem? (i := 484) (by decide +kernel)
theorem lt_491 : (Jvm.Cond.stringRef "PartitionKernel" (52 : Nat) "ticks are not 1 .. 100") ∈ lw_tbl := List.mem_of_getElem? (i := 491) (by decide +kernel)
theorem lt_504 : (Jvm.Cond.castable "java/lang/IllegalStateException" "java/lang/IllegalStateException") ∈ lw_tbl := List.mem_of_getElem? (i := 504) (by decide +kernel)
theorem lt_511 : (Jvm.Cond.stringRef "PartitionKernel" (65 : Nat) "it has begun, or there are 8 windows") ∈ lw_tbl := List.mem_of_getElem? (i := 511) (by decide +kernel)
theorem lt_532 : (Jvm.Cond.stringRef "PartitionKernel" (78 : Nat) "no such priority, period or deadline") ∈ lw_tbl := List.mem_of_getElem? (i := 532) (by decide +kernel)
theorem lt_537 : (Jvm.Cond.stringRef "PartitionKernel" (83 : Nat) "it has begun, or there are 8 processes") ∈ lw_tbl := List.mem_of_getElem? (i := 537) (by decide +kernel)
theorem lt_545 : (Jvm.Cond.stringRef "PartitionKernel" (85 : Nat) "no such partitions") ∈ lw_tbl := List.mem_of_getElem? (i := 545) (by decide +kernel)
theorem lt_546 : (Jvm.Cond.stringRef "PartitionKernel" (87 : Nat) "no such limit") ∈ lw_tbl := List.mem_of_getElem? (i := 546) (by decide +kernel)
theorem lt_547 : (Jvm.Cond.stringRef "PartitionKernel" (93 : Nat) "it has begun, or there are 8 channels") ∈ lw_tbl := List.mem_of_getElem? (i := 547) (by decide +kernel)
theorem lt_559 : (Jvm.Cond.stringRef "PartitionKernel" (99 : Nat) "no such partition or error") ∈ lw_tbl := List.mem_of_getElem? (i := 559) (by decide +kernel)
theorem lt_560 : (Jvm.Cond.stringRef "PartitionKernel" (101 : Nat) "no such action") ∈ lw_tbl := List.mem_of_getElem? (i := 560) (by decide +kernel)
theorem lt_569 : (Jvm.Cond.stringRef "PartitionKernel" (112 : Nat) "no such partition or place") ∈ lw_tbl := List.mem_of_getElem? (i := 569) (by decide +kernel)
theorem lt_581 : (Jvm.Cond.stringRef "PartitionKernel" (125 : Nat) "it has begun, or there is no window") ∈ lw_tbl := List.mem_of_getElem? (i := 581) (by decide +kernel)
theorem lt_609 : (Jvm.Cond.stringRef "PartitionKernel" (133 : Nat) "it has not begun") ∈ lw_tbl := List.mem_of_getElem? (i := 609) (by decide +kernel)
theorem lt_610 : (Jvm.Cond.stringRef "PartitionKernel" (135 : Nat) "n is not 0 .. 500") ∈ lw_tbl := List.mem_of_getElem? (i := 610) (by decide +kernel)
theorem lt_750 : (Jvm.Cond.methodLinkNest "PartitionKernel$Partition" (103 : Nat) ({ cls := "PartitionKernel", name := "isSpan", desc := "(I)Z" } : Jvm.MethodName) "PartitionKernel") ∈ lw_tbl := List.mem_of_getElem? (i := 750) (by decide +kernel)
theorem lt_760 : (Jvm.Cond.methodLinkNest "PartitionKernel$Partition" (109 : Nat) ({ cls := "PartitionKernel", name := "isPriority", desc := "(I)Z" } : Jvm.MethodName) "PartitionKernel") ∈ lw_tbl := List.mem_of_getElem? (i := 760) (by decide +kernel)
theorem lt_791 : (Jvm.Cond.instantiable "PartitionKernelModel" (44 : Nat)) ∈ lw_tbl := List.mem_of_getElem? (i := 791) (by decide +kernel)
theorem lt_929 : (Jvm.Cond.arrayClass Jvm.ClassFile.FieldType.boolean) ∈ lw_tbl := List.mem_of_getElem? (i := 929) (by decide +kernel)
theorem lt_1130 : (Jvm.Cond.arrayClass Jvm.ClassFile.FieldType.long) ∈ lw_tbl := List.mem_of_getElem? (i := 1130) (by decide +kernel)
theorem lt_G : ∀ w ∈ pg_G, w ∈ lw_tbl := fun w h => (List.mem_filter.mp h).1
section PLI
variable {s : State} {args : Array Value}
theorem pl_str (hts : ∀ w ∈ lw_tbl, w.before args s = true) {i : Nat} {t : String} (h : Jvm.Cond.stringRef "PartitionKernel" i t ∈ lw_tbl) : ∃ a0, vk_R "PartitionKernel" i t a0 s := by
  obtain ⟨c1, k1, hc1, -⟩ := Cond.instantiable_spec (hts _ lt_62)
  obtain ⟨k, cf, j, a, -, -, -, -, -, h6⟩ := Cond.stringRef_spec hc1 (hts _ h)
  exact ⟨a, vk_R.of (hts _ h) h6⟩
theorem pl_X (hts : ∀ w ∈ lw_tbl, w.before args s = true) : pg_X s := ⟨hts _ lt_70, hts _ lt_72, hts _ lt_142, va_tabs rfl rfl (hts _ lt_75), va_tabs rfl rfl (hts _ lt_99), va_tabs rfl rfl (hts _ lt_133), va_tabs rfl rfl (hts _ lt_242), va_tabs rfl rfl (hts _ lt_750), va_tabs rfl rfl (hts _ lt_760)⟩
theorem pl_W (hts : ∀ w ∈ lw_tbl, w.before args s = true) : pg_W s := ⟨va_tabs rfl rfl (hts _ lt_418), va_tabs rfl rfl (hts _ lt_420), va_tabs rfl rfl (hts _ lt_422), va_tabs rfl rfl (hts _ lt_416), va_tabs rfl rfl (hts _ lt_484), va_tabs rfl rfl (hts _ lt_504), pl_str hts lt_455, pl_str hts lt_491, pl_str hts lt_511, pl_str hts lt_532, pl_str hts lt_537, pl_str hts lt_545, pl_str hts lt_546, pl_str hts lt_547, pl_str hts lt_559, pl_str hts lt_560, pl_str hts lt_569, pl_str hts lt_581, pl_str hts lt_609, pl_str hts lt_610⟩
theorem pl_k0 (hts : ∀ w ∈ lw_tbl, w.before args s = true) : ∃ (cC : ClassId) (iS : Nat → Nat), u_Kn s "PartitionKernel$Channel" pg_T0 8 cC iS := u_known (ws := lw_tbl) (n := 8) hts (fun w hw => by
  rcases List.mem_cons.mp (oku_0 1000 w hw) with h | h
  · obtain ⟨j, hj, rfl⟩ := List.mem_map.mp hw
    unfold u_lay at h
    split at h <;> cases h
  · exact lt_G _ h) (hts _ lt_241)
theorem pl_k1 (hts : ∀ w ∈ lw_tbl, w.before args s = true) : ∃ (cC : ClassId) (iS : Nat → Nat), u_Kn s "PartitionKernel$ErrorLog" pg_T1 7 cC iS := u_known (ws := lw_tbl) (n := 7) hts (fun w hw => by
  rcases List.mem_cons.mp (oku_1 1000 w hw) with h | h
  · obtain ⟨j, hj, rfl⟩ := List.mem_map.mp hw
    unfold u_lay at h
    split at h <;> cases h
  · exact lt_G _ h) (hts _ lt_98)
theorem pl_k2 (hts : ∀ w ∈ lw_tbl, w.before args s = true) : ∃ (cC : ClassId) (iS : Nat → Nat), u_Kn s "PartitionKernel$Frame" pg_T2 5 cC iS := u_known (ws := lw_tbl) (n := 5) hts (fun w hw => by
  rcases List.mem_cons.mp (oku_2 1000 w hw) with h | h
  · obtain ⟨j, hj, rfl⟩ := List.mem_map.mp hw
    unfold u_lay at h
    split at h <;> cases h
  · exact lt_G _ h) (hts _ lt_74)
theorem pl_k3 (hts : ∀ w ∈ lw_tbl, w.before args s = true) : ∃ (cC : ClassId) (iS : Nat → Nat), u_Kn s "PartitionKernel$Memory" pg_T3 1 cC iS := u_known (ws := lw_tbl) (n := 1) hts (fun w hw => by
  rcases List.mem_cons.mp (oku_3 1000 w hw) with h | h
  · obtain ⟨j, hj, rfl⟩ := List.mem_map.mp hw
    unfold u_lay at h
    split at h <;> cases h
  · exact lt_G _ h) (hts _ lt_132)
theorem pl_k4 (hts : ∀ w ∈ lw_tbl, w.before args s = true) : ∃ (cC : ClassId) (iS : Nat → Nat), u_Kn s "PartitionKernel$Partition" pg_T4 9 cC iS := u_known (ws := lw_tbl) (n := 9) hts (fun w hw => by
  rcases List.mem_cons.mp (oku_4 1000 w hw) with h | h
  · obtain ⟨j, hj, rfl⟩ := List.mem_map.mp hw
    unfold u_lay at h
    split at h <;> cases h
  · exact lt_G _ h) (hts _ lt_126)
theorem pl_k5 (hts : ∀ w ∈ lw_tbl, w.before args s = true) : ∃ (cC : ClassId) (iS : Nat → Nat), u_Kn s "PartitionKernel$Proc" pg_T5 14 cC iS := u_known (ws := lw_tbl) (n := 14) hts (fun w hw => by
  rcases List.mem_cons.mp (oku_5 1000 w hw) with h | h
  · obtain ⟨j, hj, rfl⟩ := List.mem_map.mp hw
    unfold u_lay at h
    split at h <;> cases h
  · exact lt_G _ h) (hts _ lt_143)
theorem pl_k6 (hts : ∀ w ∈ lw_tbl, w.before args s = true) : ∃ (cC : ClassId) (iS : Nat → Nat), u_Kn s "PartitionKernel" pg_T6 8 cC iS := u_known (ws := lw_tbl) (n := 8) hts (fun w hw => by
  rcases List.mem_cons.mp (oku_6 1000 w hw) with h | h
  · obtain ⟨j, hj, rfl⟩ := List.mem_map.mp hw
    unfold u_lay at h
    split at h <;> cases h
  · exact lt_G _ h) (hts _ lt_62)
theorem pl_k7 (hts : ∀ w ∈ lw_tbl, w.before args s = true) : ∃ (cC : ClassId) (iS : Nat → Nat), u_Kn s "PartitionKernelModel" pg_T7 44 cC iS := u_known (ws := lw_tbl) (n := 44) hts (fun w hw => by
  rcases List.mem_cons.mp (oku_7 1000 w hw) with h | h
  · obtain ⟨j, hj, rfl⟩ := List.mem_map.mp hw
    unfold u_lay at h
    split at h <;> cases h
  · exact lt_G _ h) (hts _ lt_791)
theorem pl_ac (hts : ∀ w ∈ lw_tbl, w.before args s = true) {t : FieldType} (h : Jvm.Cond.arrayClass t ∈ lw_tbl) : ∃ cA, ArrOfT s cA t ∧ s.vm.findClass ("[" ++ t.toString) = some cA := by
  obtain ⟨cA, kA, comp, h1, h2, h3⟩ := Cond.arrayClass_spec (hts _ h)
  exact ⟨cA, fun n z => ⟨fun k h => (by cases h), kA, h2, comp, h3⟩, h1⟩
theorem pl_ao (hts : ∀ w ∈ lw_tbl, w.before args s = true) {C : String} (h : Jvm.Cond.arrayOver (.object C) ∈ lw_tbl) : ∃ cA, ArrOfT s cA (.object C) ∧ va_RA s cA (.object C) := by
  obtain ⟨comp, cA, kA, h1, h2, h3, h4, h5⟩ := Cond.arrayOver_spec (hts _ h)
  exact ⟨cA, fun n z => ⟨fun k h => (by cases h), kA, h3, comp, h4⟩, kA, comp, h3, h4, h1, h5⟩
theorem pl_K (hts : ∀ w ∈ lw_tbl, w.before args s = true) : ∃ (cA : Nat → ClassId) (D : va_G), va_K D pg_cl (pg_tys cA) s := by
  obtain ⟨c0, i0, k0⟩ := pl_k0 hts
  obtain ⟨c1, i1, k1⟩ := pl_k1 hts
  obtain ⟨c2, i2, k2⟩ := pl_k2 hts
  obtain ⟨c3, i3, k3⟩ := pl_k3 hts
  obtain ⟨c4, i4, k4⟩ := pl_k4 hts
  obtain ⟨c5, i5, k5⟩ := pl_k5 hts
  obtain ⟨c6, i6, k6⟩ := pl_k6 hts
  obtain ⟨c7, i7, k7⟩ := pl_k7 hts
  obtain ⟨a1, p1, q1⟩ := pl_ac hts lt_96
  obtain ⟨a2, p2, q2⟩ := pl_ac hts lt_1130
  obtain ⟨a4, p4, q4⟩ := pl_ac hts lt_481
  obtain ⟨a5, p5, q5⟩ := pl_ac hts lt_929
  obtain ⟨a104, p104, q104⟩ := pl_ao hts lt_70
  obtain ⟨a100, p100, q100⟩ := pl_ao hts lt_72
  obtain ⟨a105, p105, q105⟩ := pl_ao hts lt_142
  refine ⟨fun k => match k with | 1 => a1 | 2 => a2 | 4 => a4 | 5 => a5 | 104 => a104 | 100 => a100 | _ => a105, (fun k => match k with | 0 => c0 | 1 => c1 | 2 => c2 | 3 => c3 | 4 => c4 | 5 => c5 | 6 => c6 | _ => c7, fun k => match k with | 0 => i0 | 1 => i1 | 2 => i2 | 3 => i3 | 4 => i4 | 5 => i5 | 6 => i6 | _ => i7), fun k q hq => ?_, fun k q hq => ?_⟩
  · match k, hq with
    | 0, hq => cases hq; exact k0
    | 1, hq => cases hq; exact k1
    | 2, hq => cases hq; exact k2
    | 3, hq => cases hq; exact k3
    | 4, hq => cases hq; exact k4
    | 5, hq => cases hq; exact k5
    | 6, hq => cases hq; exact k6
    | 7, hq => cases hq; exact k7
    | k + 8, hq => simp [pg_cl] at hq
  · match k, hq with
    | 0, hq => cases hq; exact ⟨p1, q1⟩
    | 1, hq => cases hq; exact ⟨p2, q2⟩
    | 2, hq => cases hq; exact ⟨p4, q4⟩
    | 3, hq => cases hq; exact ⟨p5, q5⟩
    | 4, hq => cases hq; exact ⟨p104, q104⟩
    | 5, hq => cases hq; exact ⟨p100, q100⟩
    | 6, hq => cases hq; exact ⟨p105, q105⟩
    | k + 7, hq => simp [pg_tys] at hq
end PLI
theorem pl_N {s : State} {args : Array Value} (hgv : (Jvm.Cond.and given_1 narrow_1).before args s = true) : pg_N s := by
  have hs := flat_of_before _ hgv
  have h1 : (Jvm.Cond.not (.castable "java/lang/IllegalArgumentException" "java/lang/IndexOutOfBoundsException")).before args s = true := hs _ (by decide +kernel)
  have h2 : (Jvm.Cond.not (.castable "java/lang/IllegalStateException" "java/lang/IndexOutOfBoundsException")).before args s = true := hs _ (by decide +kernel)
  have h3 : (Jvm.Cond.not (.castable "java/lang/IllegalStateException" "java/lang/IllegalArgumentException")).before args s = true := hs _ (by decide +kernel)
  exact List.forall_mem_cons.mpr ⟨mq_cs.no h1, List.forall_mem_cons.mpr ⟨mq_cs.no h2, List.forall_mem_cons.mpr ⟨mq_cs.no h3, fun _ h => absurd h List.not_mem_nil⟩⟩⟩
theorem pl_Y {s : State} {args : Array Value} (hts : ∀ w ∈ lw_tbl, w.before args s = true) (hgv : (Jvm.Cond.and given_1 narrow_1).before args s = true) : mq_Y (fun q : Nat => s.heap.size ≤ q) s s.heap := by
  have hs := flat_of_before _ hgv
  have h1 : (Jvm.Cond.isRef (.static "java/lang/Throwable" "UNASSIGNED_STACK" "[Ljava/lang/StackTraceElement;")).before args s = true := hs _ (by decide +kernel)
  have h2 : (Jvm.Cond.isRef (.static "java/lang/Throwable" "SUPPRESSED_SENTINEL" "Ljava/util/List;")).before args s = true := hs _ (by decide +kernel)
  exact ⟨mq_Zs.of (hts _ lt_441) h1 (fun a h => Nat.not_le.mpr h), mq_Zs.of (hts _ lt_443) h2 (fun a h => Nat.not_le.mpr h)⟩
/-- a method with an exception table isn't one without -/
theorem pw_clash {l : Launch} {D : va_G} (cA : Nat → ClassId) {k : Nat} {hh : List (Nat × Nat × Nat × Nat)} (hp : plainName (pg_Z.1 k).cls = true) (hne : hh ≠ []) (hm : Jvm.Cond.codeWith (pg_Z.1 k) (pg_Z.2.1 k) (pg_Z.2.2.1 k) (pg_Z.2.2.2.1 k) hh ∈ pg_G) (rm : Room) (mc ms : Nat) (as : List mLV) (M : mMm) (rv : Option mLV) (M' : mMm) : mq_Met l pg_X (pg_E cA) D pg_cl (pg_tys cA) (pg_Z.1 k) (mq_ws pg_Z k) rm mc ms as M rv M' := by
  intro ad refs sz hV hva
  refine Met.ofW (cc := pg_Z.2.1 k) (maxL := pg_Z.2.2.1 k) (ret := pg_Z.2.2.2.1 k) hp rfl ?_
  intro p e s m args below meth c s₁ B hml hv
  exfalso
  have hts := atoms_spec (ws := mq_ws pg_Z k) B.pre
  have hemp : c.exceptionTable.isEmpty = true := B.noHandlers (hts _ List.mem_cons_self)
  obtain ⟨m9, meth9, c9, hn9, hm9, hc9, -, -, htab, -⟩ := Cond.codeWith_spec (hts _ (List.mem_cons_of_mem _ hm))
  cases B.named.symm.trans hn9
  cases B.method.symm.trans hm9
  cases (Stand.of_body B).code.symm.trans hc9
  apply hne
  rw [← htab, Array.isEmpty_iff.mp hemp]
  rfl
def pl_call (F : Nat) : Nat → List mLV → mMm → mRs := fun a as M => match a with
  | 151 => pWr F 8 hn_151 151 cd_151 as M
  | 152 => pWr F 8 hn_152 152 cd_152 as M
  | 153 => pWr F 8 hn_153 153 cd_153 as M
  | 154 => pWr F 8 hn_154 154 cd_154 as M
  | 155 => pWr F 8 hn_155 155 cd_155 as M
  | 156 => pWr F 8 hn_156 156 cd_156 as M
  | 157 => pWr F 8 hn_157 157 cd_157 as M
  | a => pX F 9 a as M
theorem pw_h151 : ∀ sc x hp, hn_151 sc x = some hp → (x = 50 ∨ x = 51 ∨ x = 52) ∧ pw_okh (pg_Z.2.1 151) (pg_Z.2.2.1 151) hh_151 3 x hp := by
  intro sc x hp h
  unfold hn_151 at h
  split at h
  · cases h; exact ⟨by decide, oh_151_50⟩
  · cases h; exact ⟨by decide, oh_151_51⟩
  · cases h; exact ⟨by decide, oh_151_52⟩
  · cases h
set_option maxHeartbeats 1000000 in
theorem pw_c151 : ∀ en ∈ cd_151, ∀ ix, en.2.1 = ClassFile.Instr.invokevirtual ix → (∀ en' ∈ pg_c en.2.2.2.1, mq_okt (pg_Z.2.1 en.2.2.2.1) (pg_Z.1 en.2.2.2.1).cls (mq_ws pg_Z en.2.2.2.1) pg_ki pg_ex pg_nm pg_W en') ∧ ∀ sc x hp, hn_151 sc x = some hp → (x = 50 ∨ x = 51 ∨ x = 52) ∧ pw_okh (pg_Z.2.1 151) (pg_Z.2.2.1 151) hh_151 en.1 x hp := mq_all_mem ⟨(fun _ h => by cases h), (fun _ h => by cases h), (fun _ h => by cases h), (fun _ _ => ⟨ot_71, pw_h151⟩), (fun _ h => by cases h), (fun _ h => by cases h), (fun _ h => by cases h), (fun _ h => by cases h), (fun _ h => by cases h), (fun _ h => by cases h), (fun _ h => by cases h), (fun _ h => by cases h), (fun _ h => by cases h), (fun _ h => by cases h), (fun _ h => by cases h), (fun _ h => by cases h), trivial⟩
theorem pw_h152 : ∀ sc x hp, hn_152 sc x = some hp → (x = 50 ∨ x = 51 ∨ x = 52) ∧ pw_okh (pg_Z.2.1 152) (pg_Z.2.2.1 152) hh_152 11 x hp := by
  intro sc x hp h
  unfold hn_152 at h
  split at h
  · cases h; exact ⟨by decide, oh_152_50⟩
  · cases h; exact ⟨by decide, oh_152_51⟩
  · cases h; exact ⟨by decide, oh_152_52⟩
  · cases h
set_option maxHeartbeats 1000000 in
theorem pw_c152 : ∀ en ∈ cd_152, ∀ ix, en.2.1 = ClassFile.Instr.invokevirtual ix → (∀ en' ∈ pg_c en.2.2.2.1, mq_okt (pg_Z.2.1 en.2.2.2.1) (pg_Z.1 en.2.2.2.1).cls (mq_ws pg_Z en.2.2.2.1) pg_ki pg_ex pg_nm pg_W en') ∧ ∀ sc x hp, hn_152 sc x = some hp → (x = 50 ∨ x = 51 ∨ x = 52) ∧ pw_okh (pg_Z.2.1 152) (pg_Z.2.2.1 152) hh_152 en.1 x hp := mq_all_mem ⟨(fun _ h => by cases h), (fun _ h => by cases h), (fun _ h => by cases h), (fun _ h => by cases h), (fun _ h => by cases h), (fun _ h => by cases h), (fun _ h => by cases h), (fun _ h => by cases h), (fun _ _ => ⟨ot_72, pw_h152⟩), (fun _ h => by cases h), (fun _ h => by cases h), (fun _ h => by cases h), (fun _ h => by cases h), (fun _ h => by cases h), (fun _ h => by cases h), (fun _ h => by cases h), (fun _ h => by cases h), (fun _ h => by cases h), (fun _ h => by cases h), (fun _ h => by cases h), (fun _ h => by cases h), (fun _ h => by cases h), (fun _ h => by cases h), trivial⟩
theorem pw_h153 : ∀ sc x hp, hn_153 sc x = some hp → (x = 50 ∨ x = 51 ∨ x = 52) ∧ pw_okh (pg_Z.2.1 153) (pg_Z.2.2.1 153) hh_153 9 x hp := by
  intro sc x hp h
  unfold hn_153 at h
  split at h
  · cases h; exact ⟨by decide, oh_153_50⟩
  · cases h; exact ⟨by decide, oh_153_51⟩
  · cases h; exact ⟨by decide, oh_153_52⟩
  · cases h
set_option maxHeartbeats 1000000 in
theorem pw_c153 : ∀ en ∈ cd_153, ∀ ix, en.2.1 = ClassFile.Instr.invokevirtual ix → (∀ en' ∈ pg_c en.2.2.2.1, mq_okt (pg_Z.2.1 en.2.2.2.1) (pg_Z.1 en.2.2.2.1).cls (mq_ws pg_Z en.2.2.2.1) pg_ki pg_ex pg_nm pg_W en') ∧ ∀ sc x hp, hn_153 sc x = some hp → (x = 50 ∨ x = 51 ∨ x = 52) ∧ pw_okh (pg_Z.2.1 153) (pg_Z.2.2.1 153) hh_153 en.1 x hp := mq_all_mem ⟨(fun _ h => by cases h), (fun _ h => by cases h), (fun _ h => by cases h), (fun _ h => by cases h), (fun _ h => by cases h), (fun _ h => by cases h), (fun _ h => by cases h), (fun _ _ => ⟨ot_73, pw_h153⟩), (fun _ h => by cases h), (fun _ h => by cases h), (fun _ h => by cases h), (fun _ h => by cases h), (fun _ h => by cases h), (fun _ h => by cases h), (fun _ h => by cases h), (fun _ h => by cases h), (fun _ h => by cases h), (fun _ h => by cases h), (fun _ h => by cases h), (fun _ h => by cases h), (fun _ h => by cases h), (fun _ h => by cases h), trivial⟩
theorem pw_h154 : ∀ sc x hp, hn_154 sc x = some hp → (x = 50 ∨ x = 51 ∨ x = 52) ∧ pw_okh (pg_Z.2.1 154) (pg_Z.2.2.1 154) hh_154 4 x hp := by
  intro sc x hp h
  unfold hn_154 at h
  split at h
  · cases h; exact ⟨by decide, oh_154_50⟩
  · cases h; exact ⟨by decide, oh_154_51⟩
  · cases h
set_option maxHeartbeats 1000000 in
theorem pw_c154 : ∀ en ∈ cd_154, ∀ ix, en.2.1 = ClassFile.Instr.invokevirtual ix → (∀ en' ∈ pg_c en.2.2.2.1, mq_okt (pg_Z.2.1 en.2.2.2.1) (pg_Z.1 en.2.2.2.1).cls (mq_ws pg_Z en.2.2.2.1) pg_ki pg_ex pg_nm pg_W en') ∧ ∀ sc x hp, hn_154 sc x = some hp → (x = 50 ∨ x = 51 ∨ x = 52) ∧ pw_okh (pg_Z.2.1 154) (pg_Z.2.2.1 154) hh_154 en.1 x hp := mq_all_mem ⟨(fun _ h => by cases h), (fun _ h => by cases h), (fun _ h => by cases h), (fun _ h => by cases h), (fun _ _ => ⟨ot_74, pw_h154⟩), (fun _ h => by cases h), (fun _ h => by cases h), (fun _ h => by cases h), (fun _ h => by cases h), (fun _ h => by cases h), (fun _ h => by cases h), (fun _ h => by cases h), (fun _ h => by cases h), (fun _ h => by cases h), trivial⟩
theorem pw_h155 : ∀ sc x hp, hn_155 sc x = some hp → (x = 50 ∨ x = 51 ∨ x = 52) ∧ pw_okh (pg_Z.2.1 155) (pg_Z.2.2.1 155) hh_155 4 x hp := by
  intro sc x hp h
  unfold hn_155 at h
  split at h
  · cases h; exact ⟨by decide, oh_155_50⟩
  · cases h
set_option maxHeartbeats 1000000 in
theorem pw_c155 : ∀ en ∈ cd_155, ∀ ix, en.2.1 = ClassFile.Instr.invokevirtual ix → (∀ en' ∈ pg_c en.2.2.2.1, mq_okt (pg_Z.2.1 en.2.2.2.1) (pg_Z.1 en.2.2.2.1).cls (mq_ws pg_Z en.2.2.2.1) pg_ki pg_ex pg_nm pg_W en') ∧ ∀ sc x hp, hn_155 sc x = some hp → (x = 50 ∨ x = 51 ∨ x = 52) ∧ pw_okh (pg_Z.2.1 155) (pg_Z.2.2.1 155) hh_155 en.1 x hp := mq_all_mem ⟨(fun _ h => by cases h), (fun _ h => by cases h), (fun _ h => by cases h), (fun _ h => by cases h), (fun _ _ => ⟨ot_75, pw_h155⟩), (fun _ h => by cases h), (fun _ h => by cases h), (fun _ h => by cases h), (fun _ h => by cases h), (fun _ h => by cases h), (fun _ h => by cases h), trivial⟩
theorem pw_h156 : ∀ sc x hp, hn_156 sc x = some hp → (x = 50 ∨ x = 51 ∨ x = 52) ∧ pw_okh (pg_Z.2.1 156) (pg_Z.2.2.1 156) hh_156 1 x hp := by
  intro sc x hp h
  unfold hn_156 at h
  split at h
  · cases h; exact ⟨by decide, oh_156_52⟩
  · cases h
set_option maxHeartbeats 1000000 in
theorem pw_c156 : ∀ en ∈ cd_156, ∀ ix, en.2.1 = ClassFile.Instr.invokevirtual ix → (∀ en' ∈ pg_c en.2.2.2.1, mq_okt (pg_Z.2.1 en.2.2.2.1) (pg_Z.1 en.2.2.2.1).cls (mq_ws pg_Z en.2.2.2.1) pg_ki pg_ex pg_nm pg_W en') ∧ ∀ sc x hp, hn_156 sc x = some hp → (x = 50 ∨ x = 51 ∨ x = 52) ∧ pw_okh (pg_Z.2.1 156) (pg_Z.2.2.1 156) hh_156 en.1 x hp := mq_all_mem ⟨(fun _ h => by cases h), (fun _ _ => ⟨ot_76, pw_h156⟩), (fun _ h => by cases h), (fun _ h => by cases h), (fun _ h => by cases h), (fun _ h => by cases h), (fun _ h => by cases h), (fun _ h => by cases h), trivial⟩
theorem pw_h157 : ∀ sc x hp, hn_157 sc x = some hp → (x = 50 ∨ x = 51 ∨ x = 52) ∧ pw_okh (pg_Z.2.1 157) (pg_Z.2.2.1 157) hh_157 4 x hp := by
  intro sc x hp h
  unfold hn_157 at h
  split at h
  · cases h; exact ⟨by decide, oh_157_51⟩
  · cases h; exact ⟨by decide, oh_157_52⟩
  · cases h
set_option maxHeartbeats 1000000 in
theorem pw_c157 : ∀ en ∈ cd_157, ∀ ix, en.2.1 = ClassFile.Instr.invokevirtual ix → (∀ en' ∈ pg_c en.2.2.2.1, mq_okt (pg_Z.2.1 en.2.2.2.1) (pg_Z.1 en.2.2.2.1).cls (mq_ws pg_Z en.2.2.2.1) pg_ki pg_ex pg_nm pg_W en') ∧ ∀ sc x hp, hn_157 sc x = some hp → (x = 50 ∨ x = 51 ∨ x = 52) ∧ pw_okh (pg_Z.2.1 157) (pg_Z.2.2.1 157) hh_157 en.1 x hp := mq_all_mem ⟨(fun _ h => by cases h), (fun _ h => by cases h), (fun _ h => by cases h), (fun _ h => by cases h), (fun _ _ => ⟨ot_77, pw_h157⟩), (fun _ h => by cases h), (fun _ h => by cases h), (fun _ h => by cases h), (fun _ h => by cases h), (fun _ h => by cases h), (fun _ h => by cases h), (fun _ h => by cases h), (fun _ h => by cases h), (fun _ h => by cases h), (fun _ h => by cases h), (fun _ h => by cases h), trivial⟩
/-- nothing is made yet: what cells then hold is nobody's business -/
def mq_M0 (g : (Nat → Nat → Nat → Int32) × (Nat → Nat → Nat → mRf) × (Nat → Nat → Nat → Int64)) : mMm := (fun _ => 0, g)
def pLaw (F L : Nat) (xs : Nat → Int32) (g : (Nat → Nat → Nat → Int32) × (Nat → Nat → Nat → mRf) × (Nat → Nat → Nat → Int64)) : mRs := mq_loop pg_ki pl_sw (fun _ _ => none) pg_mx (pl_call F) pl_cd (601024, 7293034, 0) (some (L, xs)) F 0 [(0, .inr (some (999, 0)))] [] (mq_M0 g) 0 0
section PLC
variable {l : Launch} {D : va_G} {F : Nat} {cA : Nat → ClassId}
theorem pl_hcall : ∀ a as M rv M', pl_call F a as M = some (.inl rv, M') → mq_Met l pg_X (pg_E cA) D pg_cl (pg_tys cA) (pg_Z.1 a) (mq_ws pg_Z a) (mq_rm pg_mx 9 a) (pg_mx a).1 (pg_mx a).2.1 as M rv M' := by
  intro a as M rv M' h
  unfold pl_call at h
  split at h
  · exact pw_clash (k := 151) (hh := hh_151) cA (by decide) (by decide) gl_406 _ _ _ _ _ _ _
  · exact pw_clash (k := 152) (hh := hh_152) cA (by decide) (by decide) gl_520 _ _ _ _ _ _ _
  · exact pw_clash (k := 153) (hh := hh_153) cA (by decide) (by decide) gl_540 _ _ _ _ _ _ _
  · exact pw_clash (k := 154) (hh := hh_154) cA (by decide) (by decide) gl_554 _ _ _ _ _ _ _
  · exact pw_clash (k := 155) (hh := hh_155) cA (by decide) (by decide) gl_563 _ _ _ _ _ _ _
  · exact pw_clash (k := 156) (hh := hh_156) cA (by decide) (by decide) gl_576 _ _ _ _ _ _ _
  · exact pw_clash (k := 157) (hh := hh_157) cA (by decide) (by decide) gl_604 _ _ _ _ _ _ _
  · exact pg_sound cA 9 _ as M rv M' h
/-- a wrapper's contract, and what a call of it asks -/
def pl_wr (l : Launch) (D : va_G) (F : Nat) (cA : Nat → ClassId) (a b ix : Nat) : Prop := ∃ hh : List (Nat × Nat × Nat × Nat), (∀ as M rv M', pl_call F a as M = some (.inl rv, M') → ∀ ad refs sz, mq_V (pg_E cA) M refs → (∀ r, (.inr (some r) : mLV) ∈ as → mq_vr refs r) → Met l (pg_Z.1 a) (pw_ws a hh) (mq_rm pg_mx 9 a) (pg_PW cA D sz ad refs as M) (mq_Qc (pg_E cA) D pg_cl (pg_tys cA) (va_A (mq_W (pg_E cA) ad refs M) sz) ad refs rv M') (pg_mx a).1 (pg_mx a).2.1 (va_A (mq_W (pg_E cA) ad refs M) sz)) ∧
  Jvm.Cond.codeWith (pg_Z.1 a) (pg_Z.2.1 a) (pg_Z.2.2.1 a) (pg_Z.2.2.2.1 a) hh ∈ pg_G ∧ Jvm.Cond.initialized (pg_Z.1 a).cls ∈ pg_G ∧ Jvm.Cond.methodLink "PartitionKernelLaw" ix (pg_Z.1 a) ∈ pg_G ∧ Jvm.Cond.static (pg_Z.1 a) ∈ pg_G ∧ ((pg_Z.1 a).cls ≠ "java/lang/invoke/MethodHandle" ∧ (pg_Z.1 a).cls ≠ "java/lang/invoke/VarHandle" ∧ (parseMethodDescriptor (pg_Z.1 a).desc).map (fun d => d.parameters.length) = some b) ∧ pg_Z.2.2.1 a ≤ 18
theorem pl_wr151 (hfl : l.flags = flags0) : pl_wr l D F cA 151 3 45 := ⟨hh_151, fun as M rv M' h ad refs sz hV hva => pw_sound cA hfl 7 151 (by decide) (hn := hn_151) (code := cd_151) (hh := hh_151) rfl rfl (fun Ts hG => ow_151 cA hG) rfl pw_c151 as M rv M' h ad refs sz hV hva, gl_406, gl_44, gl_404, gl_405, ⟨by decide +kernel, by decide +kernel, by decide +kernel⟩, by decide +kernel⟩
theorem pl_wr152 (hfl : l.flags = flags0) : pl_wr l D F cA 152 7 55 := ⟨hh_152, fun as M rv M' h ad refs sz hV hva => pw_sound cA hfl 7 152 (by decide) (hn := hn_152) (code := cd_152) (hh := hh_152) rfl rfl (fun Ts hG => ow_152 cA hG) rfl pw_c152 as M rv M' h ad refs sz hV hva, gl_520, gl_44, gl_518, gl_519, ⟨by decide +kernel, by decide +kernel, by decide +kernel⟩, by decide +kernel⟩
theorem pl_wr153 (hfl : l.flags = flags0) : pl_wr l D F cA 153 6 59 := ⟨hh_153, fun as M rv M' h ad refs sz hV hva => pw_sound cA hfl 7 153 (by decide) (hn := hn_153) (code := cd_153) (hh := hh_153) rfl rfl (fun Ts hG => ow_153 cA hG) rfl pw_c153 as M rv M' h ad refs sz hV hva, gl_540, gl_44, gl_538, gl_539, ⟨by decide +kernel, by decide +kernel, by decide +kernel⟩, by decide +kernel⟩
theorem pl_wr154 (hfl : l.flags = flags0) : pl_wr l D F cA 154 4 63 := ⟨hh_154, fun as M rv M' h ad refs sz hV hva => pw_sound cA hfl 7 154 (by decide) (hn := hn_154) (code := cd_154) (hh := hh_154) rfl rfl (fun Ts hG => ow_154 cA hG) rfl pw_c154 as M rv M' h ad refs sz hV hva, gl_554, gl_44, gl_552, gl_553, ⟨by decide +kernel, by decide +kernel, by decide +kernel⟩, by decide +kernel⟩
theorem pl_wr155 (hfl : l.flags = flags0) : pl_wr l D F cA 155 4 67 := ⟨hh_155, fun as M rv M' h ad refs sz hV hva => pw_sound cA hfl 7 155 (by decide) (hn := hn_155) (code := cd_155) (hh := hh_155) rfl rfl (fun Ts hG => ow_155 cA hG) rfl pw_c155 as M rv M' h ad refs sz hV hva, gl_563, gl_44, gl_561, gl_562, ⟨by decide +kernel, by decide +kernel, by decide +kernel⟩, by decide +kernel⟩
theorem pl_wr156 (hfl : l.flags = flags0) : pl_wr l D F cA 156 1 70 := ⟨hh_156, fun as M rv M' h ad refs sz hV hva => pw_sound cA hfl 7 156 (by decide) (hn := hn_156) (code := cd_156) (hh := hh_156) rfl rfl (fun Ts hG => ow_156 cA hG) rfl pw_c156 as M rv M' h ad refs sz hV hva, gl_576, gl_44, gl_574, gl_575, ⟨by decide +kernel, by decide +kernel, by decide +kernel⟩, by decide +kernel⟩
theorem pl_wr157 (hfl : l.flags = flags0) : pl_wr l D F cA 157 3 74 := ⟨hh_157, fun as M rv M' h ad refs sz hV hva => pw_sound cA hfl 7 157 (by decide) (hn := hn_157) (code := cd_157) (hh := hh_157) rfl rfl (fun Ts hG => ow_157 cA hG) rfl pw_c157 as M rv M' h ad refs sz hV hva, gl_604, gl_44, gl_602, gl_603, ⟨by decide +kernel, by decide +kernel, by decide +kernel⟩, by decide +kernel⟩
end PLC
set_option maxHeartbeats 4000000 in
set_option maxRecDepth 100000 in
theorem pl_c8 {l : Launch} {D : va_G} {F : Nat} {cA : Nat → ClassId} (hfl : l.flags = flags0) : ∀ en ∈ pl_cd, ∀ ix, en.2.1 = ClassFile.Instr.invokestatic ix → en.2.2.2.2.2.1 = 8 → pl_wr l D F cA en.2.2.2.1 en.2.2.2.2.1 ix := mq_all_mem ⟨(fun _ h => by cases h),
  (fun _ h => by cases h),
  (fun _ h => by cases h),
  (fun _ h => by cases h),
  (fun _ h => by cases h),
  (fun _ h => by cases h),
  (fun _ h => by cases h),
  (fun _ h => by cases h),
  (fun _ h => by cases h),
  (fun _ h => by cases h),
  (fun _ h => by cases h),
  (fun _ h => by cases h),
  (fun _ h => by cases h),
  (fun _ h => by cases h),
  (fun _ h => by cases h),
  (fun _ h => by cases h),
  (fun _ h => by cases h),
  (fun _ h => by cases h),
  (fun _ h => by cases h),
  (fun _ h => by cases h),
  (fun _ h => by cases h),
  (fun _ h => by cases h),
  (fun _ h => by cases h),
  (fun _ h => by cases h),
  (fun _ h => by cases h),
  (fun _ h => by cases h),
  (fun _ h => by cases h),
  (fun _ h => by cases h),
  (fun _ h => by cases h),
  (fun _ h => by cases h),
  (fun _ h => by cases h),
  (fun _ h => by cases h),
  (fun _ h => by cases h),
  (fun _ h => by cases h),
  (fun _ h => by cases h),
  (fun _ h => by cases h),
  (fun _ h _ => by cases h; exact pl_wr151 hfl),
  (fun _ h => by cases h),
  (fun _ h => by cases h),
  (fun _ h => by cases h),
  (fun _ h => by cases h),
  (fun _ h => by cases h),
  (fun _ h => by cases h),
  (fun _ h => by cases h),
  (fun _ h => by cases h),
  (fun _ h => by cases h),
  (fun _ h => by cases h),
  (fun _ h => by cases h),
  (fun _ h => by cases h),
  (fun _ h => by cases h),
  (fun _ h => by cases h),
  (fun _ h => by cases h),
  (fun _ h => by cases h),
  (fun _ h => by cases h),
  (fun _ h => by cases h),
  (fun _ h => by cases h),
  (fun _ h => by cases h),
  (fun _ h => by cases h),
  (fun _ h => by cases h),
  (fun _ h => by cases h),
  (fun _ h => by cases h),
  (fun _ h => by cases h),
  (fun _ h => by cases h),
  (fun _ h => by cases h),
  (fun _ h => by cases h),
  (fun _ h => by cases h),
  (fun _ h => by cases h),
  (fun _ h => by cases h),
  (fun _ h => by cases h),
  (fun _ h => by cases h),
  (fun _ h => by cases h),
  (fun _ h => by cases h),
  (fun _ h => by cases h),
  (fun _ h => by cases h),
  (fun _ h => by cases h),
  (fun _ h => by cases h),
  (fun _ h => by cases h),
  (fun _ h => by cases h),
  (fun _ h => by cases h),
  (fun _ h => by cases h),
  (fun _ h => by cases h),
  (fun _ h => by cases h),
  (fun _ h => by cases h),
  (fun _ h => by cases h),
  (fun _ h _ => by cases h; exact pl_wr152 hfl),
  (fun _ h => by cases h),
  (fun _ h => by cases h),
  (fun _ h => by cases h),
  (fun _ h => by cases h),
  (fun _ h => by cases h),
  (fun _ h => by cases h),
  (fun _ h => by cases h),
  (fun _ h => by cases h),
  (fun _ h => by cases h),
  (fun _ h => by cases h),
  (fun _ h => by cases h),
  (fun _ h => by cases h),
  (fun _ h => by cases h),
  (fun _ h => by cases h),
  (fun _ h => by cases h),
  (fun _ h => by cases h),
  (fun _ h => by cases h),
  (fun _ h => by cases h),
  (fun _ h => by cases h),
  (fun _ h => by cases h),
  (fun _ h => by cases h),
  (fun _ h => by cases h),
  (fun _ h => by cases h),
  (fun _ h => by cases h),
  (fun _ h => by cases h),
  (fun _ h => by cases h),
  (fun _ h => by cases h),
  (fun _ h => by cases h),
  (fun _ h => by cases h),
  (fun _ h => by cases h),
  (fun _ h => by cases h),
  (fun _ h => by cases h),
  (fun _ h => by cases h),
  (fun _ h => by cases h),
  (fun _ h => by cases h),
  (fun _ h => by cases h),
  (fun _ h => by cases h),
  (fun _ h => by cases h),
  (fun _ h => by cases h),
  (fun _ h => by cases h),
  (fun _ h => by cases h),
  (fun _ h => by cases h),
  (fun _ h => by cases h),
  (fun _ h => by cases h),
  (fun _ h => by cases h),
  (fun _ h => by cases h),
  (fun _ h => by cases h),
  (fun _ h => by cases h),
  (fun _ h => by cases h),
  (fun _ h => by cases h),
  (fun _ h => by cases h),
  (fun _ h => by cases h),
  (fun _ h => by cases h),
  (fun _ h => by cases h),
  (fun _ h => by cases h),
  (fun _ h => by cases h),
  (fun _ h => by cases h),
  (fun _ h => by cases h),
  (fun _ h => by cases h),
  (fun _ h => by cases h),
  (fun _ h => by cases h),
  (fun _ h => by cases h),
  (fun _ h => by cases h),
  (fun _ h => by cases h),
  (fun _ h => by cases h),
  (fun _ h => by cases h),
  (fun _ h => by cases h),
  (fun _ h => by cases h),
  (fun _ h => by cases h),
  (fun _ h => by cases h),
  (fun _ h => by cases h),
  (fun _ h => by cases h),
  (fun _ h => by cases h),
  (fun _ h _ => by cases h; exact pl_wr153 hfl),
  (fun _ h => by cases h),
  (fun _ h => by cases h),
  (fun _ h => by cases h),
  (fun _ h => by cases h),
  (fun _ h => by cases h),
  (fun _ h => by cases h),
  (fun _ h => by cases h),
  (fun _ h => by cases h),
  (fun _ h => by cases h),
  (fun _ h => by cases h),
  (fun _ h => by cases h),
  (fun _ h => by cases h),
  (fun _ h => by cases h),
  (fun _ h => by cases h),
  (fun _ h => by cases h),
  (fun _ h => by cases h),
  (fun _ h => by cases h),
  (fun _ h => by cases h),
  (fun _ h => by cases h),
  (fun _ h => by cases h),
  (fun _ h => by cases h),
  (fun _ h => by cases h),
  (fun _ h => by cases h),
  (fun _ h => by cases h),
  (fun _ h => by cases h),
  (fun _ h => by cases h),
  (fun _ h => by cases h),
  (fun _ h => by cases h),
  (fun _ h => by cases h),
  (fun _ h => by cases h),
  (fun _ h => by cases h),
  (fun _ h => by cases h),
  (fun _ h => by cases h),
  (fun _ h => by cases h),
  (fun _ h => by cases h),
  (fun _ h => by cases h),
  (fun _ h => by cases h),
  (fun _ h => by cases h),
  (fun _ h => by cases h),
  (fun _ h => by cases h),
  (fun _ h => by cases h),
  (fun _ h => by cases h),
  (fun _ h => by cases h),
  (fun _ h => by cases h),
  (fun _ h => by cases h),
  (fun _ h => by cases h),
  (fun _ h => by cases h),
  (fun _ h => by cases h),
  (fun _ h => by cases h),
  (fun _ h => by cases h),
  (fun _ h => by cases h),
  (fun _ h => by cases h),
  (fun _ h => by cases h),
  (fun _ h => by cases h),
  (fun _ h => by cases h),
  (fun _ h => by cases h),
  (fun _ h => by cases h),
  (fun _ h => by cases h),
  (fun _ h => by cases h),
  (fun _ h => by cases h),
  (fun _ h => by cases h),
  (fun _ h => by cases h),
  (fun _ h _ => by cases h; exact pl_wr154 hfl),
  (fun _ h => by cases h),
  (fun _ h => by cases h),
  (fun _ h => by cases h),
  (fun _ h => by cases h),
  (fun _ h => by cases h),
  (fun _ h => by cases h),
  (fun _ h => by cases h),
  (fun _ h => by cases h),
  (fun _ h => by cases h),
  (fun _ h => by cases h),
  (fun _ h => by cases h),
  (fun _ h => by cases h),
  (fun _ h => by cases h),
  (fun _ h => by cases h),
  (fun _ h => by cases h),
  (fun _ h => by cases h),
  (fun _ h => by cases h),
  (fun _ h => by cases h),
  (fun _ h => by cases h),
  (fun _ h => by cases h),
  (fun _ h => by cases h),
  (fun _ h => by cases h),
  (fun _ h => by cases h),
  (fun _ h => by cases h),
  (fun _ h => by cases h),
  (fun _ h => by cases h),
  (fun _ h => by cases h),
  (fun _ h => by cases h),
  (fun _ h => by cases h),
  (fun _ h => by cases h),
  (fun _ h => by cases h),
  (fun _ h => by cases h),
  (fun _ h => by cases h),
  (fun _ h => by cases h),
  (fun _ h => by cases h),
  (fun _ h => by cases h),
  (fun _ h => by cases h),
  (fun _ h => by cases h),
  (fun _ h => by cases h),
  (fun _ h => by cases h),
  (fun _ h => by cases h),
  (fun _ h _ => by cases h; exact pl_wr155 hfl),
  (fun _ h => by cases h),
  (fun _ h => by cases h),
  (fun _ h => by cases h),
  (fun _ h => by cases h),
  (fun _ h => by cases h),
  (fun _ h => by cases h),
  (fun _ h => by cases h),
  (fun _ h => by cases h),
  (fun _ h => by cases h),
  (fun _ h => by cases h),
  (fun _ h => by cases h),
  (fun _ h => by cases h),
  (fun _ h => by cases h),
  (fun _ h => by cases h),
  (fun _ h => by cases h),
  (fun _ h => by cases h),
  (fun _ h => by cases h),
  (fun _ h => by cases h),
  (fun _ h => by cases h),
  (fun _ h => by cases h),
  (fun _ h => by cases h),
  (fun _ h => by cases h),
  (fun _ h => by cases h),
  (fun _ h => by cases h),
  (fun _ h => by cases h),
  (fun _ h => by cases h),
  (fun _ h _ => by cases h; exact pl_wr156 hfl),
  (fun _ h => by cases h),
  (fun _ h => by cases h),
  (fun _ h => by cases h),
  (fun _ h => by cases h),
  (fun _ h => by cases h),
  (fun _ h => by cases h),
  (fun _ h => by cases h),
  (fun _ h => by cases h),
  (fun _ h => by cases h),
  (fun _ h => by cases h),
  (fun _ h => by cases h),
  (fun _ h => by cases h),
  (fun _ h => by cases h),
  (fun _ h => by cases h),
  (fun _ h => by cases h),
  (fun _ h => by cases h),
  (fun _ h => by cases h),
  (fun _ h _ => by cases h; exact pl_wr157 hfl),
  (fun _ h => by cases h),
  (fun _ h => by cases h),
  (fun _ h => by cases h),
  (fun _ h => by cases h),
  (fun _ h => by cases h),
  (fun _ h => by cases h),
  (fun _ h => by cases h),
  (fun _ h => by cases h),
  (fun _ h => by cases h),
  (fun _ h => by cases h),
  (fun _ h => by cases h),
  (fun _ h => by cases h),
  (fun _ h => by cases h),
  (fun _ h => by cases h),
  (fun _ h => by cases h),
  (fun _ h => by cases h),
  (fun _ h => by cases h),
  (fun _ h => by cases h),
  (fun _ h => by cases h),
  (fun _ h => by cases h),
  (fun _ h => by cases h),
  (fun _ h => by cases h),
  (fun _ h => by cases h),
  (fun _ h => by cases h),
  (fun _ h => by cases h),
  (fun _ h => by cases h),
  (fun _ h => by cases h),
  (fun _ h => by cases h),
  (fun _ h => by cases h),
  (fun _ h => by cases h),
  (fun _ h => by cases h),
  (fun _ h => by cases h),
  (fun _ h => by cases h),
  (fun _ h => by cases h),
  (fun _ h => by cases h),
  (fun _ h => by cases h),
  (fun _ h => by cases h),
  (fun _ h => by cases h),
  (fun _ h => by cases h),
  (fun _ h => by cases h),
  (fun _ h => by cases h),
  (fun _ h => by cases h),
  (fun _ h => by cases h),
  (fun _ h => by cases h),
  (fun _ h => by cases h),
  (fun _ h => by cases h),
  (fun _ h => by cases h),
  (fun _ h => by cases h),
  (fun _ h => by cases h),
  (fun _ h => by cases h),
  (fun _ h => by cases h),
  (fun _ h => by cases h),
  (fun _ h => by cases h),
  (fun _ h => by cases h),
  (fun _ h => by cases h),
  (fun _ h => by cases h),
  (fun _ h => by cases h),
  (fun _ h => by cases h),
  (fun _ h => by cases h),
  (fun _ h => by cases h),
  (fun _ h => by cases h),
  (fun _ h => by cases h),
  (fun _ h => by cases h),
  (fun _ h => by cases h),
  (fun _ h => by cases h),
  (fun _ h => by cases h),
  (fun _ h => by cases h),
  (fun _ h => by cases h),
  (fun _ h => by cases h),
  (fun _ h => by cases h),
  (fun _ h => by cases h),
  (fun _ h => by cases h),
  (fun _ h => by cases h),
  (fun _ h => by cases h),
  (fun _ h => by cases h),
  (fun _ h => by cases h),
  (fun _ h => by cases h),
  (fun _ h => by cases h),
  (fun _ h => by cases h),
  (fun _ h => by cases h),
  (fun _ h => by cases h),
  (fun _ h => by cases h),
  (fun _ h => by cases h),
  (fun _ h => by cases h),
  (fun _ h => by cases h),
  (fun _ h => by cases h),
  (fun _ h => by cases h),
  (fun _ h => by cases h),
  (fun _ h => by cases h),
  (fun _ h => by cases h),
  (fun _ h => by cases h),
  (fun _ h => by cases h),
  (fun _ h => by cases h),
  (fun _ h => by cases h),
  (fun _ h => by cases h),
  (fun _ h => by cases h),
  (fun _ h => by cases h),
  (fun _ h => by cases h),
  (fun _ h => by cases h),
  (fun _ h => by cases h),
  (fun _ h => by cases h),
  (fun _ h => by cases h),
  (fun _ h => by cases h),
  (fun _ h => by cases h),
  (fun _ h => by cases h),
  (fun _ h => by cases h),
  (fun _ h => by cases h),
  (fun _ h => by cases h),
  (fun _ h => by cases h),
  (fun _ h => by cases h),
  (fun _ h => by cases h),
  (fun _ h => by cases h),
  (fun _ h => by cases h),
  (fun _ h => by cases h),
  (fun _ h => by cases h),
  (fun _ h => by cases h),
  (fun _ h => by cases h),
  (fun _ h => by cases h),
  (fun _ h => by cases h),
  (fun _ h => by cases h),
  (fun _ h => by cases h),
  (fun _ h => by cases h),
  (fun _ h => by cases h),
  (fun _ h => by cases h),
  (fun _ h => by cases h),
  (fun _ h => by cases h),
  (fun _ h => by cases h),
  (fun _ h => by cases h),
  (fun _ h => by cases h),
  (fun _ h => by cases h),
  (fun _ h => by cases h),
  (fun _ h => by cases h),
  (fun _ h => by cases h),
  (fun _ h => by cases h),
  (fun _ h => by cases h),
  (fun _ h => by cases h),
  (fun _ h => by cases h),
  (fun _ h => by cases h),
  (fun _ h => by cases h),
  (fun _ h => by cases h),
  (fun _ h => by cases h),
  (fun _ h => by cases h),
  (fun _ h => by cases h),
  (fun _ h => by cases h),
  (fun _ h => by cases h),
  (fun _ h => by cases h),
  (fun _ h => by cases h),
  (fun _ h => by cases h),
  (fun _ h => by cases h),
  (fun _ h => by cases h),
  (fun _ h => by cases h),
  (fun _ h => by cases h),
  (fun _ h => by cases h),
  (fun _ h => by cases h),
  (fun _ h => by cases h),
  (fun _ h => by cases h),
  (fun _ h => by cases h),
  (fun _ h => by cases h),
  (fun _ h => by cases h),
  (fun _ h => by cases h),
  (fun _ h => by cases h),
  (fun _ h => by cases h),
  (fun _ h => by cases h),
  (fun _ h => by cases h),
  (fun _ h => by cases h),
  (fun _ h => by cases h),
  (fun _ h => by cases h),
  (fun _ h => by cases h),
  (fun _ h => by cases h),
  (fun _ h => by cases h),
  (fun _ h => by cases h),
  (fun _ h => by cases h),
  (fun _ h => by cases h),
  (fun _ h => by cases h),
  (fun _ h => by cases h),
  (fun _ h => by cases h),
  (fun _ h => by cases h),
  (fun _ h => by cases h),
  (fun _ h => by cases h),
  (fun _ h => by cases h),
  (fun _ h => by cases h),
  (fun _ h => by cases h),
  (fun _ h => by cases h),
  (fun _ h => by cases h),
  (fun _ h => by cases h),
  (fun _ h => by cases h),
  (fun _ h => by cases h),
  (fun _ h => by cases h),
  (fun _ h => by cases h),
  (fun _ h => by cases h),
  (fun _ h => by cases h),
  (fun _ h => by cases h),
  (fun _ h => by cases h),
  (fun _ h => by cases h),
  (fun _ h => by cases h),
  (fun _ h => by cases h),
  (fun _ h => by cases h),
  (fun _ h => by cases h),
  (fun _ h => by cases h),
  (fun _ h => by cases h),
  (fun _ h => by cases h),
  (fun _ h => by cases h),
  (fun _ h => by cases h),
  (fun _ h => by cases h),
  (fun _ h => by cases h),
  (fun _ h => by cases h),
  (fun _ h => by cases h),
  (fun _ h => by cases h),
  (fun _ h => by cases h),
  (fun _ h => by cases h),
  (fun _ h => by cases h),
  (fun _ h => by cases h),
  (fun _ h => by cases h),
  (fun _ h => by cases h),
  (fun _ h => by cases h),
  (fun _ h => by cases h),
  (fun _ h => by cases h),
  (fun _ h => by cases h),
  (fun _ h => by cases h),
  (fun _ h => by cases h),
  (fun _ h => by cases h),
  (fun _ h => by cases h),
  (fun _ h => by cases h),
  (fun _ h => by cases h),
  (fun _ h => by cases h),
  (fun _ h => by cases h),
  (fun _ h => by cases h),
  (fun _ h => by cases h),
  (fun _ h => by cases h),
  (fun _ h => by cases h),
  (fun _ h => by cases h),
  (fun _ h => by cases h),
  (fun _ h => by cases h),
  (fun _ h => by cases h),
  (fun _ h => by cases h),
  (fun _ h => by cases h),
  (fun _ h => by cases h),
  (fun _ h => by cases h),
  (fun _ h => by cases h),
  (fun _ h => by cases h),
  (fun _ h => by cases h),
  (fun _ h => by cases h),
  (fun _ h => by cases h),
  (fun _ h => by cases h),
  (fun _ h => by cases h),
  (fun _ h => by cases h),
  (fun _ h => by cases h),
  (fun _ h => by cases h),
  (fun _ h => by cases h),
  (fun _ h => by cases h),
  (fun _ h => by cases h),
  (fun _ h => by cases h),
  (fun _ h => by cases h),
  (fun _ h => by cases h),
  (fun _ h => by cases h),
  (fun _ h => by cases h),
  (fun _ h => by cases h), trivial⟩
set_option maxHeartbeats 4000000 in
/-- THE LAW IS AS THE MACHINE SAYS -/
theorem pl_sound {p : Program} {e : Env} {s : State} {m : MethodId} {below : List Frame} {meth : Method} {c : Code} {l : Launch} {b L : Nat} {xs : Nat → Int32} (hfl : l.flags = flags0) (C0 : lw_At p s m meth c b L xs) {F : Nat} {M' : mMm} {g : (Nat → Nat → Nat → Int32) × (Nat → Nat → Nat → mRf) × (Nat → Nat → Nat → Int64)} (hrun : pLaw F L xs g = some (.inl (some (.inl 1)), M')) :
    W p l e room_1 s m #[Value.ref b] below meth c s.heap [] 0 0 (lw_Z below #[Value.ref b] s) (entryFrame m ([Value.ref b] : List Value).toArray 7) := by
  obtain ⟨hx, hb, hr, hml, hown, hts, hX, hbl, hlocks, hgv⟩ := C0
  obtain ⟨cA, D, hK⟩ := pl_K hts
  have hXs := pl_X hts
  have hW := pl_W hts
  have hN := pl_N hgv
  have hY := pl_Y hts hgv
  have C : mq_C p s m #[Value.ref b] c code 7 "PartitionKernelLaw" lw_tbl D pg_cl (pg_tys cA) (fun q : Nat => s.heap.size ≤ q) pg_X := ⟨hx, hb, hml, hown, hts, hK, fun q h => h, hXs, pX_warm⟩
  have hl := lv_entry ([.ref b]) (n := 7) (Nat.le_of_ble_eq_true rfl)
  rw [lg_entry_eq]
  generalize (lg_sl ([.ref b]) ++ List.replicate (7 - (lg_sl ([.ref b])).length) Slot.unset).toArray = ls at hl ⊢
  have hl : lv_has ls 7 [(0, .ref b)] := hl
  have hR : 9 + 1 ≤ room_1.frames ∧ 37 * (9 + 1) ≤ room_1.locals ∧ 601024 ≤ room_1.cells ∧ 7293034 ≤ room_1.slots := ⟨by decide, by decide, by decide, by decide⟩
  refine mq_main (E := pg_E cA) (res := (.inl (some (.inl 1)), M')) (rt := some .boolean) (lim := (601024, 7293034, 0)) (d := 9) (tI := 0) (tL := 1) (tB := 2) (tZ := 3) (ad0 := fun _ => b) (refs0 := []) C rfl (fun hi => by cases hi) rfl rfl rfl rfl (pg_htQ cA) pg_htO (ow_law cA lt_G) pl_hcall hR
    (fun w h => by cases h; exact ⟨hX, hbl, Nat.not_le.mpr hbl⟩)
    (fun pc ix nx a b sc v _ lv st M cs ss q as r x M' hp _ _ _ _ _ _ _ hh => by cases hh)
    ?_
    (fun pc lv x M1 cs ss hd hb1 he hcs hss => by
      cases he
      intro H locs ls ad refs hB hl hvl hvs
      refine va_forget (fun q hq => hB.2.2.1.2.2 q hq) ?_
      refine W.widen hcs hss ?_
      exact lw_ret hx hb hr hlocks hd)
    (fun pc lv w M2 cs ss hd hb1 he hcs hss => by cases he)
    (fun pc lv M2 cs ss hd hb1 he hcs hss => by cases he)
    (fun en _ ix _ _ lv M2 cs ss he _ _ => by cases he)
    F 0 [(0, .inr (some (999, 0)))] [] (mq_M0 g) 0 0 (Nat.zero_le _) (Nat.zero_le _) hrun s.heap [] ls (fun _ => b) [] ⟨fun k q h => by simp [mq_W] at h, ⟨fun i j p q h => by simp [mq_W] at h, fun k q h => by simp [mq_W] at h⟩, va_S.rf, ⟨fun r => ⟨fun h => absurd h List.not_mem_nil, fun h => absurd h (Nat.not_lt_zero _)⟩, fun r h => absurd h List.not_mem_nil⟩, fun _ h => h, fun _ _ => rfl⟩ hl
    (fun i r h => by
      rcases List.mem_cons.mp h with h | h
      · cases h; exact Or.inr rfl
      · cases h) (fun r h => by cases h)
  intro pc ix nx a b2 v hm lv st M cs ss as r w M1 hpop hr4 hl1 hl2 hc kk
  obtain ⟨hh, h1, h2, h3, h4, h5, h6, h7⟩ := pl_c8 (l := l) (D := D) (F := F) (cA := cA) hfl _ hm ix rfl rfl
  obtain ⟨⟨hd, hnx⟩, -⟩ := ow_law cA lt_G _ hm
  obtain ⟨hlen, -⟩ := mq_pop_st hpop
  exact mq_g_callSW (E := pg_E cA) C hpop (PT := fun ad refs sz => pg_PW cA D sz ad refs as M) (fun ad refs sz hV hva => h1 as M w M1 hc ad refs sz hV hva) (fun _ _ _ => pg_PW_blind)
    (fun H locs ad refs hB U hU hWm => ⟨⟨mq_pre C hB U hU hWm, pg_W_warm s U hWm hW, hY.at (fun q h => h) hB hU hWm⟩, pg_N_warm s U hWm hN⟩)
    ⟨rfl, rfl, by show 9 + 1 ≤ 10; decide, by show 8 + (pg_Z.2.2.1 a + 11) + 37 * 9 ≤ 374; have h7 : pg_Z.2.2.1 a ≤ 18 := h7; omega⟩ (fun w hw => by
      rcases List.mem_cons.mp hw with h | h
      · rw [h]; exact ⟨lt_G _ h2, good_of_word (List.mem_filter.mp h2).2⟩
      · exact ⟨lt_G _ h, good_of_word (List.mem_filter.mp h).2⟩) List.mem_cons_self (lt_G _ h3) (lt_G _ h4) (lt_G _ h5) h6 hlen hr4 ⟨Nat.le_trans hl1 hR.2.2.1, Nat.le_trans hl2 hR.2.2.2⟩ hd kk
