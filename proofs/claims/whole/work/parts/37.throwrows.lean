/-! The throws of the class: their words, and where they stand. -/
def pg_W (U : State) : Prop := va_Nw (.declares ({ cls := "java/lang/RuntimeException", name := "<init>", desc := "(Ljava/lang/String;)V" } : Jvm.MethodName)) U ∧ va_Nw (.declares ({ cls := "java/lang/Exception", name := "<init>", desc := "(Ljava/lang/String;)V" } : Jvm.MethodName)) U ∧ va_Nw (.declares ({ cls := "java/lang/Throwable", name := "<init>", desc := "(Ljava/lang/String;)V" } : Jvm.MethodName)) U ∧ va_Nw (.castable "java/lang/IndexOutOfBoundsException" "java/lang/IndexOutOfBoundsException") U ∧ va_Nw (.castable "java/lang/IllegalArgumentException" "java/lang/IllegalArgumentException") U ∧ va_Nw (.castable "java/lang/IllegalStateException" "java/lang/IllegalStateException") U ∧ (∃ a0, vk_R "PartitionKernel" 45 "no such partition" a0 U) ∧ (∃ a0, vk_R "PartitionKernel" 52 "ticks are not 1 .. 100" a0 U) ∧ (∃ a0, vk_R "PartitionKernel" 65 "it has begun, or there are 8 windows" a0 U) ∧ (∃ a0, vk_R "PartitionKernel" 78 "no such priority, period or deadline" a0 U) ∧ (∃ a0, vk_R "PartitionKernel" 83 "it has begun, or there are 8 processes" a0 U) ∧ (∃ a0, vk_R "PartitionKernel" 85 "no such partitions" a0 U) ∧ (∃ a0, vk_R "PartitionKernel" 87 "no such limit" a0 U) ∧ (∃ a0, vk_R "PartitionKernel" 93 "it has begun, or there are 8 channels" a0 U) ∧ (∃ a0, vk_R "PartitionKernel" 99 "no such partition or error" a0 U) ∧ (∃ a0, vk_R "PartitionKernel" 101 "no such action" a0 U) ∧ (∃ a0, vk_R "PartitionKernel" 112 "no such partition or place" a0 U) ∧ (∃ a0, vk_R "PartitionKernel" 125 "it has begun, or there is no window" a0 U) ∧ (∃ a0, vk_R "PartitionKernel" 133 "it has not begun" a0 U) ∧ (∃ a0, vk_R "PartitionKernel" 135 "n is not 0 .. 500" a0 U)
theorem pg_W_warm : ∀ u U : State, u.WarmedH U.vm → pg_W u → pg_W U := fun u U hW h => ⟨h.1.warmD hW, h.2.1.warmD hW, h.2.2.1.warmD hW, h.2.2.2.1.warmC hW, h.2.2.2.2.1.warmC hW, h.2.2.2.2.2.1.warmC hW, h.2.2.2.2.2.2.1.imp (fun _ z => z.warm hW), h.2.2.2.2.2.2.2.1.imp (fun _ z => z.warm hW), h.2.2.2.2.2.2.2.2.1.imp (fun _ z => z.warm hW), h.2.2.2.2.2.2.2.2.2.1.imp (fun _ z => z.warm hW), h.2.2.2.2.2.2.2.2.2.2.1.imp (fun _ z => z.warm hW), h.2.2.2.2.2.2.2.2.2.2.2.1.imp (fun _ z => z.warm hW), h.2.2.2.2.2.2.2.2.2.2.2.2.1.imp (fun _ z => z.warm hW), h.2.2.2.2.2.2.2.2.2.2.2.2.2.1.imp (fun _ z => z.warm hW), h.2.2.2.2.2.2.2.2.2.2.2.2.2.2.1.imp (fun _ z => z.warm hW), h.2.2.2.2.2.2.2.2.2.2.2.2.2.2.2.1.imp (fun _ z => z.warm hW), h.2.2.2.2.2.2.2.2.2.2.2.2.2.2.2.2.1.imp (fun _ z => z.warm hW), h.2.2.2.2.2.2.2.2.2.2.2.2.2.2.2.2.2.1.imp (fun _ z => z.warm hW), h.2.2.2.2.2.2.2.2.2.2.2.2.2.2.2.2.2.2.1.imp (fun _ z => z.warm hW), h.2.2.2.2.2.2.2.2.2.2.2.2.2.2.2.2.2.2.2.imp (fun _ z => z.warm hW)⟩
theorem gx_53 (mi : Nat) : (Jvm.Cond.initialized "java/lang/Throwable") ∈ mq_ws pg_Z mi := mq_gw 53 mi (by decide +kernel) (by decide +kernel)
theorem gx_56 (mi : Nat) : (Jvm.Cond.initialized "java/lang/IndexOutOfBoundsException") ∈ mq_ws pg_Z mi := mq_gw 56 mi (by decide +kernel) (by decide +kernel)
theorem gx_57 (mi : Nat) : (Jvm.Cond.initialized "java/lang/IllegalArgumentException") ∈ mq_ws pg_Z mi := mq_gw 57 mi (by decide +kernel) (by decide +kernel)
theorem gx_58 (mi : Nat) : (Jvm.Cond.initialized "java/lang/IllegalStateException") ∈ mq_ws pg_Z mi := mq_gw 58 mi (by decide +kernel) (by decide +kernel)
theorem gx_67 (mi : Nat) : (Jvm.Cond.instanceMethod ({ cls := "java/lang/Object", name := "<init>", desc := "()V" } : Jvm.MethodName)) ∈ mq_ws pg_Z mi := mq_gw 67 mi (by decide +kernel) (by decide +kernel)
theorem gx_68 (mi : Nat) : (Jvm.Cond.code ({ cls := "java/lang/Object", name := "<init>", desc := "()V" } : Jvm.MethodName) object_method_1_code (1 : Nat) (Option.none : Option Jvm.ClassFile.FieldType)) ∈ mq_ws pg_Z mi := mq_gw 68 mi (by decide +kernel) (by decide +kernel)
theorem gx_414 (mi : Nat) : (Jvm.Cond.classLink "PartitionKernel" (43 : Nat) "java/lang/IndexOutOfBoundsException") ∈ mq_ws pg_Z mi := mq_gw 414 mi (by decide +kernel) (by decide +kernel)
theorem gx_415 (mi : Nat) : (Jvm.Cond.instantiable "java/lang/IndexOutOfBoundsException" (6 : Nat)) ∈ mq_ws pg_Z mi := mq_gw 415 mi (by decide +kernel) (by decide +kernel)
theorem gx_423 (mi : Nat) : (Jvm.Cond.selects "java/lang/IndexOutOfBoundsException" ({ cls := "java/lang/Throwable", name := "fillInStackTrace", desc := "(I)Ljava/lang/Throwable;" } : Jvm.MethodName) ({ cls := "java/lang/Throwable", name := "fillInStackTrace", desc := "(I)Ljava/lang/Throwable;" } : Jvm.MethodName)) ∈ mq_ws pg_Z mi := mq_gw 423 mi (by decide +kernel) (by decide +kernel)
theorem gx_424 (mi : Nat) : (Jvm.Cond.selects "java/lang/IndexOutOfBoundsException" ({ cls := "java/lang/Throwable", name := "fillInStackTrace", desc := "()Ljava/lang/Throwable;" } : Jvm.MethodName) ({ cls := "java/lang/Throwable", name := "fillInStackTrace", desc := "()Ljava/lang/Throwable;" } : Jvm.MethodName)) ∈ mq_ws pg_Z mi := mq_gw 424 mi (by decide +kernel) (by decide +kernel)
theorem gx_425 (mi : Nat) : (Jvm.Cond.lays "java/lang/IndexOutOfBoundsException" "java/lang/Throwable" "cause" "Ljava/lang/Throwable;") ∈ mq_ws pg_Z mi := mq_gw 425 mi (by decide +kernel) (by decide +kernel)
theorem gx_426 (mi : Nat) : (Jvm.Cond.lays "java/lang/Throwable" "java/lang/Throwable" "cause" "Ljava/lang/Throwable;") ∈ mq_ws pg_Z mi := mq_gw 426 mi (by decide +kernel) (by decide +kernel)
theorem gx_427 (mi : Nat) : (Jvm.Cond.lays "java/lang/IndexOutOfBoundsException" "java/lang/Throwable" "stackTrace" "[Ljava/lang/StackTraceElement;") ∈ mq_ws pg_Z mi := mq_gw 427 mi (by decide +kernel) (by decide +kernel)
theorem gx_428 (mi : Nat) : (Jvm.Cond.lays "java/lang/Throwable" "java/lang/Throwable" "stackTrace" "[Ljava/lang/StackTraceElement;") ∈ mq_ws pg_Z mi := mq_gw 428 mi (by decide +kernel) (by decide +kernel)
theorem gx_429 (mi : Nat) : (Jvm.Cond.lays "java/lang/IndexOutOfBoundsException" "java/lang/Throwable" "suppressedExceptions" "Ljava/util/List;") ∈ mq_ws pg_Z mi := mq_gw 429 mi (by decide +kernel) (by decide +kernel)
theorem gx_430 (mi : Nat) : (Jvm.Cond.lays "java/lang/Throwable" "java/lang/Throwable" "suppressedExceptions" "Ljava/util/List;") ∈ mq_ws pg_Z mi := mq_gw 430 mi (by decide +kernel) (by decide +kernel)
theorem gx_431 (mi : Nat) : (Jvm.Cond.lays "java/lang/IndexOutOfBoundsException" "java/lang/Throwable" "detailMessage" "Ljava/lang/String;") ∈ mq_ws pg_Z mi := mq_gw 431 mi (by decide +kernel) (by decide +kernel)
theorem gx_432 (mi : Nat) : (Jvm.Cond.lays "java/lang/Throwable" "java/lang/Throwable" "detailMessage" "Ljava/lang/String;") ∈ mq_ws pg_Z mi := mq_gw 432 mi (by decide +kernel) (by decide +kernel)
theorem gx_433 (mi : Nat) : (Jvm.Cond.lays "java/lang/IndexOutOfBoundsException" "java/lang/Throwable" "backtrace" "Ljava/lang/Object;") ∈ mq_ws pg_Z mi := mq_gw 433 mi (by decide +kernel) (by decide +kernel)
theorem gx_434 (mi : Nat) : (Jvm.Cond.lays "java/lang/Throwable" "java/lang/Throwable" "backtrace" "Ljava/lang/Object;") ∈ mq_ws pg_Z mi := mq_gw 434 mi (by decide +kernel) (by decide +kernel)
theorem gx_435 (mi : Nat) : (Jvm.Cond.fieldLink "java/lang/Throwable" (198 : Nat) "java/lang/Throwable" "backtrace" "Ljava/lang/Object;") ∈ mq_ws pg_Z mi := mq_gw 435 mi (by decide +kernel) (by decide +kernel)
theorem gx_436 (mi : Nat) : (Jvm.Cond.superclass "java/lang/Throwable" "java/lang/Object") ∈ mq_ws pg_Z mi := mq_gw 436 mi (by decide +kernel) (by decide +kernel)
theorem gx_437 (mi : Nat) : (Jvm.Cond.instanceMethod ({ cls := "java/lang/Throwable", name := "<init>", desc := "()V" } : Jvm.MethodName)) ∈ mq_ws pg_Z mi := mq_gw 437 mi (by decide +kernel) (by decide +kernel)
theorem gx_438 (mi : Nat) : (Jvm.Cond.code ({ cls := "java/lang/Throwable", name := "<init>", desc := "()V" } : Jvm.MethodName) prog_18_method_1_code (1 : Nat) (Option.none : Option Jvm.ClassFile.FieldType)) ∈ mq_ws pg_Z mi := mq_gw 438 mi (by decide +kernel) (by decide +kernel)
theorem gx_439 (mi : Nat) : (Jvm.Cond.methodLink "java/lang/Throwable" (1 : Nat) ({ cls := "java/lang/Object", name := "<init>", desc := "()V" } : Jvm.MethodName)) ∈ mq_ws pg_Z mi := mq_gw 439 mi (by decide +kernel) (by decide +kernel)
theorem gx_440 (mi : Nat) : (Jvm.Cond.fieldLink "java/lang/Throwable" (13 : Nat) "java/lang/Throwable" "UNASSIGNED_STACK" "[Ljava/lang/StackTraceElement;") ∈ mq_ws pg_Z mi := mq_gw 440 mi (by decide +kernel) (by decide +kernel)
theorem gx_442 (mi : Nat) : (Jvm.Cond.fieldLink "java/lang/Throwable" (20 : Nat) "java/lang/Throwable" "SUPPRESSED_SENTINEL" "Ljava/util/List;") ∈ mq_ws pg_Z mi := mq_gw 442 mi (by decide +kernel) (by decide +kernel)
theorem gx_444 (mi : Nat) : (Jvm.Cond.methodLink "java/lang/Throwable" (27 : Nat) ({ cls := "java/lang/Throwable", name := "fillInStackTrace", desc := "()Ljava/lang/Throwable;" } : Jvm.MethodName)) ∈ mq_ws pg_Z mi := mq_gw 444 mi (by decide +kernel) (by decide +kernel)
theorem gx_445 (mi : Nat) : (Jvm.Cond.instanceMethod ({ cls := "java/lang/Throwable", name := "fillInStackTrace", desc := "()Ljava/lang/Throwable;" } : Jvm.MethodName)) ∈ mq_ws pg_Z mi := mq_gw 445 mi (by decide +kernel) (by decide +kernel)
theorem gx_447 (mi : Nat) : (Jvm.Cond.selects "java/lang/IllegalArgumentException" ({ cls := "java/lang/Throwable", name := "fillInStackTrace", desc := "()Ljava/lang/Throwable;" } : Jvm.MethodName) ({ cls := "java/lang/Throwable", name := "fillInStackTrace", desc := "()Ljava/lang/Throwable;" } : Jvm.MethodName)) ∈ mq_ws pg_Z mi := mq_gw 447 mi (by decide +kernel) (by decide +kernel)
theorem gx_448 (mi : Nat) : (Jvm.Cond.selects "java/lang/IllegalStateException" ({ cls := "java/lang/Throwable", name := "fillInStackTrace", desc := "()Ljava/lang/Throwable;" } : Jvm.MethodName) ({ cls := "java/lang/Throwable", name := "fillInStackTrace", desc := "()Ljava/lang/Throwable;" } : Jvm.MethodName)) ∈ mq_ws pg_Z mi := mq_gw 448 mi (by decide +kernel) (by decide +kernel)
theorem gx_449 (mi : Nat) : (Jvm.Cond.codeSync ({ cls := "java/lang/Throwable", name := "fillInStackTrace", desc := "()Ljava/lang/Throwable;" } : Jvm.MethodName) prog_18_method_18_code (1 : Nat) (Option.some (Jvm.ClassFile.FieldType.object "java/lang/Throwable"))) ∈ mq_ws pg_Z mi := mq_gw 449 mi (by decide +kernel) (by decide +kernel)
theorem gx_450 (mi : Nat) : (Jvm.Cond.methodLink "java/lang/Throwable" (202 : Nat) ({ cls := "java/lang/Throwable", name := "fillInStackTrace", desc := "(I)Ljava/lang/Throwable;" } : Jvm.MethodName)) ∈ mq_ws pg_Z mi := mq_gw 450 mi (by decide +kernel) (by decide +kernel)
theorem gx_452 (mi : Nat) : (Jvm.Cond.instanceMethod ({ cls := "java/lang/Throwable", name := "fillInStackTrace", desc := "(I)Ljava/lang/Throwable;" } : Jvm.MethodName)) ∈ mq_ws pg_Z mi := mq_gw 452 mi (by decide +kernel) (by decide +kernel)
theorem gx_454 (mi : Nat) : (Jvm.Cond.native ({ cls := "java/lang/Throwable", name := "fillInStackTrace", desc := "(I)Ljava/lang/Throwable;" } : Jvm.MethodName)) ∈ mq_ws pg_Z mi := mq_gw 454 mi (by decide +kernel) (by decide +kernel)
theorem gx_456 (mi : Nat) : (Jvm.Cond.methodLink "PartitionKernel" (47 : Nat) ({ cls := "java/lang/IndexOutOfBoundsException", name := "<init>", desc := "(Ljava/lang/String;)V" } : Jvm.MethodName)) ∈ mq_ws pg_Z mi := mq_gw 456 mi (by decide +kernel) (by decide +kernel)
theorem gx_457 (mi : Nat) : (Jvm.Cond.instanceMethod ({ cls := "java/lang/IndexOutOfBoundsException", name := "<init>", desc := "(Ljava/lang/String;)V" } : Jvm.MethodName)) ∈ mq_ws pg_Z mi := mq_gw 457 mi (by decide +kernel) (by decide +kernel)
theorem gx_458 (mi : Nat) : (Jvm.Cond.code ({ cls := "java/lang/IndexOutOfBoundsException", name := "<init>", desc := "(Ljava/lang/String;)V" } : Jvm.MethodName) prog_14_method_2_code (2 : Nat) (Option.none : Option Jvm.ClassFile.FieldType)) ∈ mq_ws pg_Z mi := mq_gw 458 mi (by decide +kernel) (by decide +kernel)
theorem gx_459 (mi : Nat) : (Jvm.Cond.methodLink "java/lang/IndexOutOfBoundsException" (7 : Nat) ({ cls := "java/lang/RuntimeException", name := "<init>", desc := "(Ljava/lang/String;)V" } : Jvm.MethodName)) ∈ mq_ws pg_Z mi := mq_gw 459 mi (by decide +kernel) (by decide +kernel)
theorem gx_460 (mi : Nat) : (Jvm.Cond.instanceMethod ({ cls := "java/lang/RuntimeException", name := "<init>", desc := "(Ljava/lang/String;)V" } : Jvm.MethodName)) ∈ mq_ws pg_Z mi := mq_gw 460 mi (by decide +kernel) (by decide +kernel)
theorem gx_461 (mi : Nat) : (Jvm.Cond.code ({ cls := "java/lang/RuntimeException", name := "<init>", desc := "(Ljava/lang/String;)V" } : Jvm.MethodName) prog_16_method_2_code (2 : Nat) (Option.none : Option Jvm.ClassFile.FieldType)) ∈ mq_ws pg_Z mi := mq_gw 461 mi (by decide +kernel) (by decide +kernel)
theorem gx_462 (mi : Nat) : (Jvm.Cond.methodLink "java/lang/RuntimeException" (7 : Nat) ({ cls := "java/lang/Exception", name := "<init>", desc := "(Ljava/lang/String;)V" } : Jvm.MethodName)) ∈ mq_ws pg_Z mi := mq_gw 462 mi (by decide +kernel) (by decide +kernel)
theorem gx_463 (mi : Nat) : (Jvm.Cond.instanceMethod ({ cls := "java/lang/Exception", name := "<init>", desc := "(Ljava/lang/String;)V" } : Jvm.MethodName)) ∈ mq_ws pg_Z mi := mq_gw 463 mi (by decide +kernel) (by decide +kernel)
theorem gx_464 (mi : Nat) : (Jvm.Cond.code ({ cls := "java/lang/Exception", name := "<init>", desc := "(Ljava/lang/String;)V" } : Jvm.MethodName) prog_11_method_2_code (2 : Nat) (Option.none : Option Jvm.ClassFile.FieldType)) ∈ mq_ws pg_Z mi := mq_gw 464 mi (by decide +kernel) (by decide +kernel)
theorem gx_465 (mi : Nat) : (Jvm.Cond.methodLink "java/lang/Exception" (7 : Nat) ({ cls := "java/lang/Throwable", name := "<init>", desc := "(Ljava/lang/String;)V" } : Jvm.MethodName)) ∈ mq_ws pg_Z mi := mq_gw 465 mi (by decide +kernel) (by decide +kernel)
theorem gx_466 (mi : Nat) : (Jvm.Cond.instanceMethod ({ cls := "java/lang/Throwable", name := "<init>", desc := "(Ljava/lang/String;)V" } : Jvm.MethodName)) ∈ mq_ws pg_Z mi := mq_gw 466 mi (by decide +kernel) (by decide +kernel)
theorem gx_467 (mi : Nat) : (Jvm.Cond.code ({ cls := "java/lang/Throwable", name := "<init>", desc := "(Ljava/lang/String;)V" } : Jvm.MethodName) prog_18_method_2_code (2 : Nat) (Option.none : Option Jvm.ClassFile.FieldType)) ∈ mq_ws pg_Z mi := mq_gw 467 mi (by decide +kernel) (by decide +kernel)
theorem gx_469 (mi : Nat) : (Jvm.Cond.fieldLink "java/lang/Throwable" (31 : Nat) "java/lang/Throwable" "detailMessage" "Ljava/lang/String;") ∈ mq_ws pg_Z mi := mq_gw 469 mi (by decide +kernel) (by decide +kernel)
theorem gx_470 (mi : Nat) : (Jvm.Cond.fieldLink "java/lang/Throwable" (7 : Nat) "java/lang/Throwable" "cause" "Ljava/lang/Throwable;") ∈ mq_ws pg_Z mi := mq_gw 470 mi (by decide +kernel) (by decide +kernel)
theorem gx_471 (mi : Nat) : (Jvm.Cond.fieldLink "java/lang/Throwable" (17 : Nat) "java/lang/Throwable" "stackTrace" "[Ljava/lang/StackTraceElement;") ∈ mq_ws pg_Z mi := mq_gw 471 mi (by decide +kernel) (by decide +kernel)
theorem gx_472 (mi : Nat) : (Jvm.Cond.fieldLink "java/lang/Throwable" (24 : Nat) "java/lang/Throwable" "suppressedExceptions" "Ljava/util/List;") ∈ mq_ws pg_Z mi := mq_gw 472 mi (by decide +kernel) (by decide +kernel)
theorem gx_482 (mi : Nat) : (Jvm.Cond.classLink "PartitionKernel" (50 : Nat) "java/lang/IllegalArgumentException") ∈ mq_ws pg_Z mi := mq_gw 482 mi (by decide +kernel) (by decide +kernel)
theorem gx_483 (mi : Nat) : (Jvm.Cond.instantiable "java/lang/IllegalArgumentException" (6 : Nat)) ∈ mq_ws pg_Z mi := mq_gw 483 mi (by decide +kernel) (by decide +kernel)
theorem gx_485 (mi : Nat) : (Jvm.Cond.selects "java/lang/IllegalArgumentException" ({ cls := "java/lang/Throwable", name := "fillInStackTrace", desc := "(I)Ljava/lang/Throwable;" } : Jvm.MethodName) ({ cls := "java/lang/Throwable", name := "fillInStackTrace", desc := "(I)Ljava/lang/Throwable;" } : Jvm.MethodName)) ∈ mq_ws pg_Z mi := mq_gw 485 mi (by decide +kernel) (by decide +kernel)
theorem gx_486 (mi : Nat) : (Jvm.Cond.lays "java/lang/IllegalArgumentException" "java/lang/Throwable" "cause" "Ljava/lang/Throwable;") ∈ mq_ws pg_Z mi := mq_gw 486 mi (by decide +kernel) (by decide +kernel)
theorem gx_487 (mi : Nat) : (Jvm.Cond.lays "java/lang/IllegalArgumentException" "java/lang/Throwable" "stackTrace" "[Ljava/lang/StackTraceElement;") ∈ mq_ws pg_Z mi := mq_gw 487 mi (by decide +kernel) (by decide +kernel)
theorem gx_488 (mi : Nat) : (Jvm.Cond.lays "java/lang/IllegalArgumentException" "java/lang/Throwable" "suppressedExceptions" "Ljava/util/List;") ∈ mq_ws pg_Z mi := mq_gw 488 mi (by decide +kernel) (by decide +kernel)
theorem gx_489 (mi : Nat) : (Jvm.Cond.lays "java/lang/IllegalArgumentException" "java/lang/Throwable" "detailMessage" "Ljava/lang/String;") ∈ mq_ws pg_Z mi := mq_gw 489 mi (by decide +kernel) (by decide +kernel)
theorem gx_490 (mi : Nat) : (Jvm.Cond.lays "java/lang/IllegalArgumentException" "java/lang/Throwable" "backtrace" "Ljava/lang/Object;") ∈ mq_ws pg_Z mi := mq_gw 490 mi (by decide +kernel) (by decide +kernel)
theorem gx_492 (mi : Nat) : (Jvm.Cond.methodLink "PartitionKernel" (54 : Nat) ({ cls := "java/lang/IllegalArgumentException", name := "<init>", desc := "(Ljava/lang/String;)V" } : Jvm.MethodName)) ∈ mq_ws pg_Z mi := mq_gw 492 mi (by decide +kernel) (by decide +kernel)
theorem gx_493 (mi : Nat) : (Jvm.Cond.instanceMethod ({ cls := "java/lang/IllegalArgumentException", name := "<init>", desc := "(Ljava/lang/String;)V" } : Jvm.MethodName)) ∈ mq_ws pg_Z mi := mq_gw 493 mi (by decide +kernel) (by decide +kernel)
theorem gx_494 (mi : Nat) : (Jvm.Cond.code ({ cls := "java/lang/IllegalArgumentException", name := "<init>", desc := "(Ljava/lang/String;)V" } : Jvm.MethodName) prog_12_method_2_code (2 : Nat) (Option.none : Option Jvm.ClassFile.FieldType)) ∈ mq_ws pg_Z mi := mq_gw 494 mi (by decide +kernel) (by decide +kernel)
theorem gx_495 (mi : Nat) : (Jvm.Cond.methodLink "java/lang/IllegalArgumentException" (7 : Nat) ({ cls := "java/lang/RuntimeException", name := "<init>", desc := "(Ljava/lang/String;)V" } : Jvm.MethodName)) ∈ mq_ws pg_Z mi := mq_gw 495 mi (by decide +kernel) (by decide +kernel)
theorem gx_502 (mi : Nat) : (Jvm.Cond.classLink "PartitionKernel" (63 : Nat) "java/lang/IllegalStateException") ∈ mq_ws pg_Z mi := mq_gw 502 mi (by decide +kernel) (by decide +kernel)
theorem gx_503 (mi : Nat) : (Jvm.Cond.instantiable "java/lang/IllegalStateException" (6 : Nat)) ∈ mq_ws pg_Z mi := mq_gw 503 mi (by decide +kernel) (by decide +kernel)
theorem gx_505 (mi : Nat) : (Jvm.Cond.selects "java/lang/IllegalStateException" ({ cls := "java/lang/Throwable", name := "fillInStackTrace", desc := "(I)Ljava/lang/Throwable;" } : Jvm.MethodName) ({ cls := "java/lang/Throwable", name := "fillInStackTrace", desc := "(I)Ljava/lang/Throwable;" } : Jvm.MethodName)) ∈ mq_ws pg_Z mi := mq_gw 505 mi (by decide +kernel) (by decide +kernel)
theorem gx_506 (mi : Nat) : (Jvm.Cond.lays "java/lang/IllegalStateException" "java/lang/Throwable" "cause" "Ljava/lang/Throwable;") ∈ mq_ws pg_Z mi := mq_gw 506 mi (by decide +kernel) (by decide +kernel)
theorem gx_507 (mi : Nat) : (Jvm.Cond.lays "java/lang/IllegalStateException" "java/lang/Throwable" "stackTrace" "[Ljava/lang/StackTraceElement;") ∈ mq_ws pg_Z mi := mq_gw 507 mi (by decide +kernel) (by decide +kernel)
theorem gx_508 (mi : Nat) : (Jvm.Cond.lays "java/lang/IllegalStateException" "java/lang/Throwable" "suppressedExceptions" "Ljava/util/List;") ∈ mq_ws pg_Z mi := mq_gw 508 mi (by decide +kernel) (by decide +kernel)
theorem gx_509 (mi : Nat) : (Jvm.Cond.lays "java/lang/IllegalStateException" "java/lang/Throwable" "detailMessage" "Ljava/lang/String;") ∈ mq_ws pg_Z mi := mq_gw 509 mi (by decide +kernel) (by decide +kernel)
theorem gx_510 (mi : Nat) : (Jvm.Cond.lays "java/lang/IllegalStateException" "java/lang/Throwable" "backtrace" "Ljava/lang/Object;") ∈ mq_ws pg_Z mi := mq_gw 510 mi (by decide +kernel) (by decide +kernel)
theorem gx_512 (mi : Nat) : (Jvm.Cond.methodLink "PartitionKernel" (67 : Nat) ({ cls := "java/lang/IllegalStateException", name := "<init>", desc := "(Ljava/lang/String;)V" } : Jvm.MethodName)) ∈ mq_ws pg_Z mi := mq_gw 512 mi (by decide +kernel) (by decide +kernel)
theorem gx_513 (mi : Nat) : (Jvm.Cond.instanceMethod ({ cls := "java/lang/IllegalStateException", name := "<init>", desc := "(Ljava/lang/String;)V" } : Jvm.MethodName)) ∈ mq_ws pg_Z mi := mq_gw 513 mi (by decide +kernel) (by decide +kernel)
theorem gx_514 (mi : Nat) : (Jvm.Cond.code ({ cls := "java/lang/IllegalStateException", name := "<init>", desc := "(Ljava/lang/String;)V" } : Jvm.MethodName) prog_13_method_2_code (2 : Nat) (Option.none : Option Jvm.ClassFile.FieldType)) ∈ mq_ws pg_Z mi := mq_gw 514 mi (by decide +kernel) (by decide +kernel)
theorem gx_515 (mi : Nat) : (Jvm.Cond.methodLink "java/lang/IllegalStateException" (7 : Nat) ({ cls := "java/lang/RuntimeException", name := "<init>", desc := "(Ljava/lang/String;)V" } : Jvm.MethodName)) ∈ mq_ws pg_Z mi := mq_gw 515 mi (by decide +kernel) (by decide +kernel)
set_option maxRecDepth 100000 in
theorem pg_at_50 (mi : Nat) (A : Nat → Prop) (args : Array Value) (s : State) (hts : ∀ w ∈ mq_ws pg_Z mi, w.before args s = true) (hW : pg_W s) (hY : mq_Y A s s.heap) : ∀ a ∈ Bundle.ownAtoms "PartitionKernel" 47 "java/lang/IndexOutOfBoundsException" ["java/lang/RuntimeException", "java/lang/Exception"], a.before args s = true :=
  List.forall_mem_append.mpr ⟨List.forall_mem_append.mpr ⟨List.forall_mem_append.mpr ⟨(List.forall_mem_cons.mpr ⟨hts _ (gx_53 mi), (List.forall_mem_cons.mpr ⟨hts _ (gx_436 mi), (List.forall_mem_cons.mpr ⟨hts _ (gx_445 mi), (List.forall_mem_cons.mpr ⟨hts _ (gx_449 mi), (List.forall_mem_cons.mpr ⟨hts _ (gx_452 mi), (List.forall_mem_cons.mpr ⟨hts _ (gx_454 mi), (List.forall_mem_cons.mpr ⟨hts _ (gx_437 mi), (List.forall_mem_cons.mpr ⟨hts _ (gx_438 mi), (List.forall_mem_cons.mpr ⟨hts _ (gx_67 mi), (List.forall_mem_cons.mpr ⟨hts _ (gx_68 mi), (List.forall_mem_cons.mpr ⟨hts _ (gx_439 mi), (List.forall_mem_cons.mpr ⟨hts _ (gx_444 mi), (List.forall_mem_cons.mpr ⟨hts _ (gx_450 mi), (List.forall_mem_cons.mpr ⟨hts _ (gx_470 mi), (List.forall_mem_cons.mpr ⟨hts _ (gx_426 mi), (List.forall_mem_cons.mpr ⟨hts _ (gx_471 mi), (List.forall_mem_cons.mpr ⟨hts _ (gx_428 mi), (List.forall_mem_cons.mpr ⟨hts _ (gx_472 mi), (List.forall_mem_cons.mpr ⟨hts _ (gx_430 mi), (List.forall_mem_cons.mpr ⟨hts _ (gx_440 mi), (List.forall_mem_cons.mpr ⟨hY.1.lays, (List.forall_mem_cons.mpr ⟨hts _ (gx_442 mi), (List.forall_mem_cons.mpr ⟨hY.2.lays, (List.forall_mem_cons.mpr ⟨hts _ (gx_432 mi), (fun _ h => absurd h List.not_mem_nil)⟩)⟩)⟩)⟩)⟩)⟩)⟩)⟩)⟩)⟩)⟩)⟩)⟩)⟩)⟩)⟩)⟩)⟩)⟩)⟩)⟩)⟩)⟩)⟩), (List.forall_mem_cons.mpr ⟨hts _ (gx_466 mi), (List.forall_mem_cons.mpr ⟨hts _ (gx_467 mi), (List.forall_mem_cons.mpr ⟨hts _ (gx_469 mi), (List.forall_mem_cons.mpr ⟨hts _ (gx_432 mi), (fun _ h => absurd h List.not_mem_nil)⟩)⟩)⟩)⟩)⟩, (List.forall_mem_append.mpr ⟨(List.forall_mem_cons.mpr ⟨hts _ (gx_457 mi), (List.forall_mem_cons.mpr ⟨hts _ (gx_458 mi), (List.forall_mem_cons.mpr ⟨hts _ (gx_459 mi), (List.forall_mem_cons.mpr ⟨hts _ (gx_460 mi), (List.forall_mem_cons.mpr ⟨va_Nw.use rfl hW.1, (fun _ h => absurd h List.not_mem_nil)⟩)⟩)⟩)⟩)⟩), List.forall_mem_append.mpr ⟨(List.forall_mem_cons.mpr ⟨hts _ (gx_460 mi), (List.forall_mem_cons.mpr ⟨hts _ (gx_461 mi), (List.forall_mem_cons.mpr ⟨hts _ (gx_462 mi), (List.forall_mem_cons.mpr ⟨hts _ (gx_463 mi), (List.forall_mem_cons.mpr ⟨va_Nw.use rfl hW.2.1, (fun _ h => absurd h List.not_mem_nil)⟩)⟩)⟩)⟩)⟩), (List.forall_mem_cons.mpr ⟨hts _ (gx_463 mi), (List.forall_mem_cons.mpr ⟨hts _ (gx_464 mi), (List.forall_mem_cons.mpr ⟨hts _ (gx_465 mi), (List.forall_mem_cons.mpr ⟨hts _ (gx_466 mi), (List.forall_mem_cons.mpr ⟨va_Nw.use rfl hW.2.2.1, (fun _ h => absurd h List.not_mem_nil)⟩)⟩)⟩)⟩)⟩)⟩⟩)⟩, (List.forall_mem_cons.mpr ⟨hts _ (gx_456 mi), (List.forall_mem_cons.mpr ⟨hts _ (gx_415 mi), (List.forall_mem_cons.mpr ⟨va_Nw.use rfl hW.2.2.2.1, (List.forall_mem_cons.mpr ⟨hts _ (gx_423 mi), (List.forall_mem_cons.mpr ⟨hts _ (gx_424 mi), (List.forall_mem_cons.mpr ⟨hts _ (gx_425 mi), (List.forall_mem_cons.mpr ⟨hts _ (gx_427 mi), (List.forall_mem_cons.mpr ⟨hts _ (gx_429 mi), (List.forall_mem_cons.mpr ⟨hts _ (gx_431 mi), (List.forall_mem_cons.mpr ⟨hY.1.ref, (List.forall_mem_cons.mpr ⟨hY.2.ref, (List.forall_mem_cons.mpr ⟨hts _ (gx_435 mi), (List.forall_mem_cons.mpr ⟨hts _ (gx_434 mi), (List.forall_mem_cons.mpr ⟨hts _ (gx_433 mi), (fun _ h => absurd h List.not_mem_nil)⟩)⟩)⟩)⟩)⟩)⟩)⟩)⟩)⟩)⟩)⟩)⟩)⟩)⟩)⟩
set_option maxRecDepth 100000 in
theorem pg_at_51 (mi : Nat) (A : Nat → Prop) (args : Array Value) (s : State) (hts : ∀ w ∈ mq_ws pg_Z mi, w.before args s = true) (hW : pg_W s) (hY : mq_Y A s s.heap) : ∀ a ∈ Bundle.ownAtoms "PartitionKernel" 54 "java/lang/IllegalArgumentException" ["java/lang/RuntimeException", "java/lang/Exception"], a.before args s = true :=
  List.forall_mem_append.mpr ⟨List.forall_mem_append.mpr ⟨List.forall_mem_append.mpr ⟨(List.forall_mem_cons.mpr ⟨hts _ (gx_53 mi), (List.forall_mem_cons.mpr ⟨hts _ (gx_436 mi), (List.forall_mem_cons.mpr ⟨hts _ (gx_445 mi), (List.forall_mem_cons.mpr ⟨hts _ (gx_449 mi), (List.forall_mem_cons.mpr ⟨hts _ (gx_452 mi), (List.forall_mem_cons.mpr ⟨hts _ (gx_454 mi), (List.forall_mem_cons.mpr ⟨hts _ (gx_437 mi), (List.forall_mem_cons.mpr ⟨hts _ (gx_438 mi), (List.forall_mem_cons.mpr ⟨hts _ (gx_67 mi), (List.forall_mem_cons.mpr ⟨hts _ (gx_68 mi), (List.forall_mem_cons.mpr ⟨hts _ (gx_439 mi), (List.forall_mem_cons.mpr ⟨hts _ (gx_444 mi), (List.forall_mem_cons.mpr ⟨hts _ (gx_450 mi), (List.forall_mem_cons.mpr ⟨hts _ (gx_470 mi), (List.forall_mem_cons.mpr ⟨hts _ (gx_426 mi), (List.forall_mem_cons.mpr ⟨hts _ (gx_471 mi), (List.forall_mem_cons.mpr ⟨hts _ (gx_428 mi), (List.forall_mem_cons.mpr ⟨hts _ (gx_472 mi), (List.forall_mem_cons.mpr ⟨hts _ (gx_430 mi), (List.forall_mem_cons.mpr ⟨hts _ (gx_440 mi), (List.forall_mem_cons.mpr ⟨hY.1.lays, (List.forall_mem_cons.mpr ⟨hts _ (gx_442 mi), (List.forall_mem_cons.mpr ⟨hY.2.lays, (List.forall_mem_cons.mpr ⟨hts _ (gx_432 mi), (fun _ h => absurd h List.not_mem_nil)⟩)⟩)⟩)⟩)⟩)⟩)⟩)⟩)⟩)⟩)⟩)⟩)⟩)⟩)⟩)⟩)⟩)⟩)⟩)⟩)⟩)⟩)⟩)⟩), (List.forall_mem_cons.mpr ⟨hts _ (gx_466 mi), (List.forall_mem_cons.mpr ⟨hts _ (gx_467 mi), (List.forall_mem_cons.mpr ⟨hts _ (gx_469 mi), (List.forall_mem_cons.mpr ⟨hts _ (gx_432 mi), (fun _ h => absurd h List.not_mem_nil)⟩)⟩)⟩)⟩)⟩, (List.forall_mem_append.mpr ⟨(List.forall_mem_cons.mpr ⟨hts _ (gx_493 mi), (List.forall_mem_cons.mpr ⟨hts _ (gx_494 mi), (List.forall_mem_cons.mpr ⟨hts _ (gx_495 mi), (List.forall_mem_cons.mpr ⟨hts _ (gx_460 mi), (List.forall_mem_cons.mpr ⟨va_Nw.use rfl hW.1, (fun _ h => absurd h List.not_mem_nil)⟩)⟩)⟩)⟩)⟩), List.forall_mem_append.mpr ⟨(List.forall_mem_cons.mpr ⟨hts _ (gx_460 mi), (List.forall_mem_cons.mpr ⟨hts _ (gx_461 mi), (List.forall_mem_cons.mpr ⟨hts _ (gx_462 mi), (List.forall_mem_cons.mpr ⟨hts _ (gx_463 mi), (List.forall_mem_cons.mpr ⟨va_Nw.use rfl hW.2.1, (fun _ h => absurd h List.not_mem_nil)⟩)⟩)⟩)⟩)⟩), (List.forall_mem_cons.mpr ⟨hts _ (gx_463 mi), (List.forall_mem_cons.mpr ⟨hts _ (gx_464 mi), (List.forall_mem_cons.mpr ⟨hts _ (gx_465 mi), (List.forall_mem_cons.mpr ⟨hts _ (gx_466 mi), (List.forall_mem_cons.mpr ⟨va_Nw.use rfl hW.2.2.1, (fun _ h => absurd h List.not_mem_nil)⟩)⟩)⟩)⟩)⟩)⟩⟩)⟩, (List.forall_mem_cons.mpr ⟨hts _ (gx_492 mi), (List.forall_mem_cons.mpr ⟨hts _ (gx_483 mi), (List.forall_mem_cons.mpr ⟨va_Nw.use rfl hW.2.2.2.2.1, (List.forall_mem_cons.mpr ⟨hts _ (gx_485 mi), (List.forall_mem_cons.mpr ⟨hts _ (gx_447 mi), (List.forall_mem_cons.mpr ⟨hts _ (gx_486 mi), (List.forall_mem_cons.mpr ⟨hts _ (gx_487 mi), (List.forall_mem_cons.mpr ⟨hts _ (gx_488 mi), (List.forall_mem_cons.mpr ⟨hts _ (gx_489 mi), (List.forall_mem_cons.mpr ⟨hY.1.ref, (List.forall_mem_cons.mpr ⟨hY.2.ref, (List.forall_mem_cons.mpr ⟨hts _ (gx_435 mi), (List.forall_mem_cons.mpr ⟨hts _ (gx_434 mi), (List.forall_mem_cons.mpr ⟨hts _ (gx_490 mi), (fun _ h => absurd h List.not_mem_nil)⟩)⟩)⟩)⟩)⟩)⟩)⟩)⟩)⟩)⟩)⟩)⟩)⟩)⟩)⟩
set_option maxRecDepth 100000 in
theorem pg_at_52 (mi : Nat) (A : Nat → Prop) (args : Array Value) (s : State) (hts : ∀ w ∈ mq_ws pg_Z mi, w.before args s = true) (hW : pg_W s) (hY : mq_Y A s s.heap) : ∀ a ∈ Bundle.ownAtoms "PartitionKernel" 67 "java/lang/IllegalStateException" ["java/lang/RuntimeException", "java/lang/Exception"], a.before args s = true :=
  List.forall_mem_append.mpr ⟨List.forall_mem_append.mpr ⟨List.forall_mem_append.mpr ⟨(List.forall_mem_cons.mpr ⟨hts _ (gx_53 mi), (List.forall_mem_cons.mpr ⟨hts _ (gx_436 mi), (List.forall_mem_cons.mpr ⟨hts _ (gx_445 mi), (List.forall_mem_cons.mpr ⟨hts _ (gx_449 mi), (List.forall_mem_cons.mpr ⟨hts _ (gx_452 mi), (List.forall_mem_cons.mpr ⟨hts _ (gx_454 mi), (List.forall_mem_cons.mpr ⟨hts _ (gx_437 mi), (List.forall_mem_cons.mpr ⟨hts _ (gx_438 mi), (List.forall_mem_cons.mpr ⟨hts _ (gx_67 mi), (List.forall_mem_cons.mpr ⟨hts _ (gx_68 mi), (List.forall_mem_cons.mpr ⟨hts _ (gx_439 mi), (List.forall_mem_cons.mpr ⟨hts _ (gx_444 mi), (List.forall_mem_cons.mpr ⟨hts _ (gx_450 mi), (List.forall_mem_cons.mpr ⟨hts _ (gx_470 mi), (List.forall_mem_cons.mpr ⟨hts _ (gx_426 mi), (List.forall_mem_cons.mpr ⟨hts _ (gx_471 mi), (List.forall_mem_cons.mpr ⟨hts _ (gx_428 mi), (List.forall_mem_cons.mpr ⟨hts _ (gx_472 mi), (List.forall_mem_cons.mpr ⟨hts _ (gx_430 mi), (List.forall_mem_cons.mpr ⟨hts _ (gx_440 mi), (List.forall_mem_cons.mpr ⟨hY.1.lays, (List.forall_mem_cons.mpr ⟨hts _ (gx_442 mi), (List.forall_mem_cons.mpr ⟨hY.2.lays, (List.forall_mem_cons.mpr ⟨hts _ (gx_432 mi), (fun _ h => absurd h List.not_mem_nil)⟩)⟩)⟩)⟩)⟩)⟩)⟩)⟩)⟩)⟩)⟩)⟩)⟩)⟩)⟩)⟩)⟩)⟩)⟩)⟩)⟩)⟩)⟩)⟩), (List.forall_mem_cons.mpr ⟨hts _ (gx_466 mi), (List.forall_mem_cons.mpr ⟨hts _ (gx_467 mi), (List.forall_mem_cons.mpr ⟨hts _ (gx_469 mi), (List.forall_mem_cons.mpr ⟨hts _ (gx_432 mi), (fun _ h => absurd h List.not_mem_nil)⟩)⟩)⟩)⟩)⟩, (List.forall_mem_append.mpr ⟨(List.forall_mem_cons.mpr ⟨hts _ (gx_513 mi), (List.forall_mem_cons.mpr ⟨hts _ (gx_514 mi), (List.forall_mem_cons.mpr ⟨hts _ (gx_515 mi), (List.forall_mem_cons.mpr ⟨hts _ (gx_460 mi), (List.forall_mem_cons.mpr ⟨va_Nw.use rfl hW.1, (fun _ h => absurd h List.not_mem_nil)⟩)⟩)⟩)⟩)⟩), List.forall_mem_append.mpr ⟨(List.forall_mem_cons.mpr ⟨hts _ (gx_460 mi), (List.forall_mem_cons.mpr ⟨hts _ (gx_461 mi), (List.forall_mem_cons.mpr ⟨hts _ (gx_462 mi), (List.forall_mem_cons.mpr ⟨hts _ (gx_463 mi), (List.forall_mem_cons.mpr ⟨va_Nw.use rfl hW.2.1, (fun _ h => absurd h List.not_mem_nil)⟩)⟩)⟩)⟩)⟩), (List.forall_mem_cons.mpr ⟨hts _ (gx_463 mi), (List.forall_mem_cons.mpr ⟨hts _ (gx_464 mi), (List.forall_mem_cons.mpr ⟨hts _ (gx_465 mi), (List.forall_mem_cons.mpr ⟨hts _ (gx_466 mi), (List.forall_mem_cons.mpr ⟨va_Nw.use rfl hW.2.2.1, (fun _ h => absurd h List.not_mem_nil)⟩)⟩)⟩)⟩)⟩)⟩⟩)⟩, (List.forall_mem_cons.mpr ⟨hts _ (gx_512 mi), (List.forall_mem_cons.mpr ⟨hts _ (gx_503 mi), (List.forall_mem_cons.mpr ⟨va_Nw.use rfl hW.2.2.2.2.2.1, (List.forall_mem_cons.mpr ⟨hts _ (gx_505 mi), (List.forall_mem_cons.mpr ⟨hts _ (gx_448 mi), (List.forall_mem_cons.mpr ⟨hts _ (gx_506 mi), (List.forall_mem_cons.mpr ⟨hts _ (gx_507 mi), (List.forall_mem_cons.mpr ⟨hts _ (gx_508 mi), (List.forall_mem_cons.mpr ⟨hts _ (gx_509 mi), (List.forall_mem_cons.mpr ⟨hY.1.ref, (List.forall_mem_cons.mpr ⟨hY.2.ref, (List.forall_mem_cons.mpr ⟨hts _ (gx_435 mi), (List.forall_mem_cons.mpr ⟨hts _ (gx_434 mi), (List.forall_mem_cons.mpr ⟨hts _ (gx_510 mi), (fun _ h => absurd h List.not_mem_nil)⟩)⟩)⟩)⟩)⟩)⟩)⟩)⟩)⟩)⟩)⟩)⟩)⟩)⟩)⟩
def pg_ex (k : Nat) : String := match k with
  | 50 => "java/lang/IndexOutOfBoundsException"
  | 51 => "java/lang/IllegalArgumentException"
  | 52 => "java/lang/IllegalStateException"
  | _ => ""
set_option maxRecDepth 100000 in
set_option maxHeartbeats 4000000 in
theorem ot_71 : ∀ en ∈ cd_71, mq_okt (pg_Z.2.1 71) (pg_Z.1 71).cls (mq_ws pg_Z 71) pg_ki pg_ex ["java/lang/RuntimeException", "java/lang/Exception"] pg_W en := mq_all_mem ⟨(fun _ h => by cases h),
  (fun _ h => by cases h),
  (fun _ h => by cases h),
  (fun ix h _ => by cases h; exact ⟨by decide +kernel, gx_414 71, gx_415 71, gx_56 71, 45, 47, "no such partition", fun s h => h.2.2.2.2.2.2.1, ⟨by decide +kernel, by decide +kernel, by decide +kernel, by decide +kernel, by decide +kernel⟩, fun A args s => pg_at_50 71 A args s⟩),
  (fun _ h => by cases h),
  (fun _ h => by cases h),
  (fun _ h => by cases h),
  (fun _ h => by cases h),
  (fun _ h => by cases h),
  (fun _ h => by cases h),
  (fun ix h _ => by cases h; exact ⟨by decide +kernel, gx_482 71, gx_483 71, gx_57 71, 52, 54, "ticks are not 1 .. 100", fun s h => h.2.2.2.2.2.2.2.1, ⟨by decide +kernel, by decide +kernel, by decide +kernel, by decide +kernel, by decide +kernel⟩, fun A args s => pg_at_51 71 A args s⟩),
  (fun _ h => by cases h),
  (fun _ h => by cases h),
  (fun _ h => by cases h),
  (fun _ h => by cases h),
  (fun _ h => by cases h),
  (fun _ h => by cases h),
  (fun _ h => by cases h),
  (fun _ h => by cases h),
  (fun _ h => by cases h),
  (fun ix h _ => by cases h; exact ⟨by decide +kernel, gx_502 71, gx_503 71, gx_58 71, 65, 67, "it has begun, or there are 8 windows", fun s h => h.2.2.2.2.2.2.2.2.1, ⟨by decide +kernel, by decide +kernel, by decide +kernel, by decide +kernel, by decide +kernel⟩, fun A args s => pg_at_52 71 A args s⟩),
  (fun _ h => by cases h), trivial⟩
set_option maxRecDepth 100000 in
set_option maxHeartbeats 4000000 in
theorem ot_72 : ∀ en ∈ cd_72, mq_okt (pg_Z.2.1 72) (pg_Z.1 72).cls (mq_ws pg_Z 72) pg_ki pg_ex ["java/lang/RuntimeException", "java/lang/Exception"] pg_W en := mq_all_mem ⟨(fun _ h => by cases h),
  (fun _ h => by cases h),
  (fun _ h => by cases h),
  (fun _ h => by cases h),
  (fun _ h => by cases h),
  (fun _ h => by cases h),
  (fun ix h _ => by cases h; exact ⟨by decide +kernel, gx_414 72, gx_415 72, gx_56 72, 45, 47, "no such partition", fun s h => h.2.2.2.2.2.2.1, ⟨by decide +kernel, by decide +kernel, by decide +kernel, by decide +kernel, by decide +kernel⟩, fun A args s => pg_at_50 72 A args s⟩),
  (fun _ h => by cases h),
  (fun _ h => by cases h),
  (fun _ h => by cases h),
  (fun _ h => by cases h),
  (fun _ h => by cases h),
  (fun _ h => by cases h),
  (fun _ h => by cases h),
  (fun _ h => by cases h),
  (fun _ h => by cases h),
  (fun ix h _ => by cases h; exact ⟨by decide +kernel, gx_482 72, gx_483 72, gx_57 72, 78, 54, "no such priority, period or deadline", fun s h => h.2.2.2.2.2.2.2.2.2.1, ⟨by decide +kernel, by decide +kernel, by decide +kernel, by decide +kernel, by decide +kernel⟩, fun A args s => pg_at_51 72 A args s⟩),
  (fun _ h => by cases h),
  (fun _ h => by cases h),
  (fun _ h => by cases h),
  (fun _ h => by cases h),
  (fun _ h => by cases h),
  (fun _ h => by cases h),
  (fun _ h => by cases h),
  (fun _ h => by cases h),
  (fun _ h => by cases h),
  (fun _ h => by cases h),
  (fun _ h => by cases h),
  (fun _ h => by cases h),
  (fun _ h => by cases h),
  (fun _ h => by cases h),
  (fun _ h => by cases h),
  (fun ix h _ => by cases h; exact ⟨by decide +kernel, gx_502 72, gx_503 72, gx_58 72, 83, 67, "it has begun, or there are 8 processes", fun s h => h.2.2.2.2.2.2.2.2.2.2.1, ⟨by decide +kernel, by decide +kernel, by decide +kernel, by decide +kernel, by decide +kernel⟩, fun A args s => pg_at_52 72 A args s⟩),
  (fun _ h => by cases h),
  (fun _ h => by cases h), trivial⟩
set_option maxRecDepth 100000 in
set_option maxHeartbeats 4000000 in
theorem ot_73 : ∀ en ∈ cd_73, mq_okt (pg_Z.2.1 73) (pg_Z.1 73).cls (mq_ws pg_Z 73) pg_ki pg_ex ["java/lang/RuntimeException", "java/lang/Exception"] pg_W en := mq_all_mem ⟨(fun _ h => by cases h),
  (fun _ h => by cases h),
  (fun _ h => by cases h),
  (fun _ h => by cases h),
  (fun _ h => by cases h),
  (fun _ h => by cases h),
  (fun ix h _ => by cases h; exact ⟨by decide +kernel, gx_414 73, gx_415 73, gx_56 73, 85, 47, "no such partitions", fun s h => h.2.2.2.2.2.2.2.2.2.2.2.1, ⟨by decide +kernel, by decide +kernel, by decide +kernel, by decide +kernel, by decide +kernel⟩, fun A args s => pg_at_50 73 A args s⟩),
  (fun _ h => by cases h),
  (fun _ h => by cases h),
  (fun _ h => by cases h),
  (fun _ h => by cases h),
  (fun _ h => by cases h),
  (fun _ h => by cases h),
  (fun _ h => by cases h),
  (fun _ h => by cases h),
  (fun _ h => by cases h),
  (fun _ h => by cases h),
  (fun _ h => by cases h),
  (fun _ h => by cases h),
  (fun ix h _ => by cases h; exact ⟨by decide +kernel, gx_482 73, gx_483 73, gx_57 73, 87, 54, "no such limit", fun s h => h.2.2.2.2.2.2.2.2.2.2.2.2.1, ⟨by decide +kernel, by decide +kernel, by decide +kernel, by decide +kernel, by decide +kernel⟩, fun A args s => pg_at_51 73 A args s⟩),
  (fun _ h => by cases h),
  (fun _ h => by cases h),
  (fun _ h => by cases h),
  (fun _ h => by cases h),
  (fun _ h => by cases h),
  (fun _ h => by cases h),
  (fun _ h => by cases h),
  (fun ix h _ => by cases h; exact ⟨by decide +kernel, gx_502 73, gx_503 73, gx_58 73, 93, 67, "it has begun, or there are 8 channels", fun s h => h.2.2.2.2.2.2.2.2.2.2.2.2.2.1, ⟨by decide +kernel, by decide +kernel, by decide +kernel, by decide +kernel, by decide +kernel⟩, fun A args s => pg_at_52 73 A args s⟩),
  (fun _ h => by cases h),
  (fun _ h => by cases h),
  (fun _ h => by cases h),
  (fun _ h => by cases h),
  (fun _ h => by cases h),
  (fun _ h => by cases h),
  (fun _ h => by cases h),
  (fun _ h => by cases h),
  (fun _ h => by cases h),
  (fun _ h => by cases h),
  (fun _ h => by cases h),
  (fun _ h => by cases h),
  (fun _ h => by cases h),
  (fun _ h => by cases h),
  (fun _ h => by cases h),
  (fun _ h => by cases h),
  (fun _ h => by cases h),
  (fun _ h => by cases h),
  (fun _ h => by cases h),
  (fun _ h => by cases h),
  (fun _ h => by cases h), trivial⟩
set_option maxRecDepth 100000 in
set_option maxHeartbeats 4000000 in
theorem ot_74 : ∀ en ∈ cd_74, mq_okt (pg_Z.2.1 74) (pg_Z.1 74).cls (mq_ws pg_Z 74) pg_ki pg_ex ["java/lang/RuntimeException", "java/lang/Exception"] pg_W en := mq_all_mem ⟨(fun _ h => by cases h),
  (fun _ h => by cases h),
  (fun _ h => by cases h),
  (fun _ h => by cases h),
  (fun _ h => by cases h),
  (fun _ h => by cases h),
  (fun _ h => by cases h),
  (fun _ h => by cases h),
  (fun _ h => by cases h),
  (fun _ h => by cases h),
  (fun _ h => by cases h),
  (fun ix h _ => by cases h; exact ⟨by decide +kernel, gx_414 74, gx_415 74, gx_56 74, 99, 47, "no such partition or error", fun s h => h.2.2.2.2.2.2.2.2.2.2.2.2.2.2.1, ⟨by decide +kernel, by decide +kernel, by decide +kernel, by decide +kernel, by decide +kernel⟩, fun A args s => pg_at_50 74 A args s⟩),
  (fun _ h => by cases h),
  (fun _ h => by cases h),
  (fun _ h => by cases h),
  (fun _ h => by cases h),
  (fun _ h => by cases h),
  (fun ix h _ => by cases h; exact ⟨by decide +kernel, gx_482 74, gx_483 74, gx_57 74, 101, 54, "no such action", fun s h => h.2.2.2.2.2.2.2.2.2.2.2.2.2.2.2.1, ⟨by decide +kernel, by decide +kernel, by decide +kernel, by decide +kernel, by decide +kernel⟩, fun A args s => pg_at_51 74 A args s⟩),
  (fun _ h => by cases h),
  (fun _ h => by cases h),
  (fun _ h => by cases h),
  (fun _ h => by cases h),
  (fun _ h => by cases h),
  (fun _ h => by cases h), trivial⟩
set_option maxRecDepth 100000 in
set_option maxHeartbeats 4000000 in
theorem ot_75 : ∀ en ∈ cd_75, mq_okt (pg_Z.2.1 75) (pg_Z.1 75).cls (mq_ws pg_Z 75) pg_ki pg_ex ["java/lang/RuntimeException", "java/lang/Exception"] pg_W en := mq_all_mem ⟨(fun _ h => by cases h),
  (fun _ h => by cases h),
  (fun _ h => by cases h),
  (fun _ h => by cases h),
  (fun _ h => by cases h),
  (fun _ h => by cases h),
  (fun _ h => by cases h),
  (fun _ h => by cases h),
  (fun _ h => by cases h),
  (fun _ h => by cases h),
  (fun ix h _ => by cases h; exact ⟨by decide +kernel, gx_414 75, gx_415 75, gx_56 75, 112, 47, "no such partition or place", fun s h => h.2.2.2.2.2.2.2.2.2.2.2.2.2.2.2.2.1, ⟨by decide +kernel, by decide +kernel, by decide +kernel, by decide +kernel, by decide +kernel⟩, fun A args s => pg_at_50 75 A args s⟩),
  (fun _ h => by cases h),
  (fun _ h => by cases h),
  (fun _ h => by cases h),
  (fun _ h => by cases h),
  (fun _ h => by cases h),
  (fun _ h => by cases h), trivial⟩
set_option maxRecDepth 100000 in
set_option maxHeartbeats 4000000 in
theorem ot_76 : ∀ en ∈ cd_76, mq_okt (pg_Z.2.1 76) (pg_Z.1 76).cls (mq_ws pg_Z 76) pg_ki pg_ex ["java/lang/RuntimeException", "java/lang/Exception"] pg_W en := mq_all_mem ⟨(fun _ h => by cases h),
  (fun _ h => by cases h),
  (fun _ h => by cases h),
  (fun _ h => by cases h),
  (fun _ h => by cases h),
  (fun _ h => by cases h),
  (fun _ h => by cases h),
  (fun ix h _ => by cases h; exact ⟨by decide +kernel, gx_502 76, gx_503 76, gx_58 76, 125, 67, "it has begun, or there is no window", fun s h => h.2.2.2.2.2.2.2.2.2.2.2.2.2.2.2.2.2.1, ⟨by decide +kernel, by decide +kernel, by decide +kernel, by decide +kernel, by decide +kernel⟩, fun A args s => pg_at_52 76 A args s⟩),
  (fun _ h => by cases h),
  (fun _ h => by cases h),
  (fun _ h => by cases h),
  (fun _ h => by cases h),
  (fun _ h => by cases h),
  (fun _ h => by cases h),
  (fun _ h => by cases h),
  (fun _ h => by cases h),
  (fun _ h => by cases h),
  (fun _ h => by cases h),
  (fun _ h => by cases h),
  (fun _ h => by cases h),
  (fun _ h => by cases h),
  (fun _ h => by cases h),
  (fun _ h => by cases h),
  (fun _ h => by cases h),
  (fun _ h => by cases h),
  (fun _ h => by cases h), trivial⟩
set_option maxRecDepth 100000 in
set_option maxHeartbeats 4000000 in
theorem ot_77 : ∀ en ∈ cd_77, mq_okt (pg_Z.2.1 77) (pg_Z.1 77).cls (mq_ws pg_Z 77) pg_ki pg_ex ["java/lang/RuntimeException", "java/lang/Exception"] pg_W en := mq_all_mem ⟨(fun _ h => by cases h),
  (fun _ h => by cases h),
  (fun _ h => by cases h),
  (fun ix h _ => by cases h; exact ⟨by decide +kernel, gx_502 77, gx_503 77, gx_58 77, 133, 67, "it has not begun", fun s h => h.2.2.2.2.2.2.2.2.2.2.2.2.2.2.2.2.2.2.1, ⟨by decide +kernel, by decide +kernel, by decide +kernel, by decide +kernel, by decide +kernel⟩, fun A args s => pg_at_52 77 A args s⟩),
  (fun _ h => by cases h),
  (fun _ h => by cases h),
  (fun _ h => by cases h),
  (fun _ h => by cases h),
  (fun _ h => by cases h),
  (fun ix h _ => by cases h; exact ⟨by decide +kernel, gx_482 77, gx_483 77, gx_57 77, 135, 54, "n is not 0 .. 500", fun s h => h.2.2.2.2.2.2.2.2.2.2.2.2.2.2.2.2.2.2.2, ⟨by decide +kernel, by decide +kernel, by decide +kernel, by decide +kernel, by decide +kernel⟩, fun A args s => pg_at_51 77 A args s⟩),
  (fun _ h => by cases h),
  (fun _ h => by cases h),
  (fun _ h => by cases h),
  (fun _ h => by cases h),
  (fun _ h => by cases h),
  (fun _ h => by cases h),
  (fun _ h => by cases h),
  (fun _ h => by cases h),
  (fun _ h => by cases h),
  (fun _ h => by cases h),
  (fun _ h => by cases h),
  (fun _ h => by cases h),
  (fun _ h => by cases h),
  (fun _ h => by cases h),
  (fun _ h => by cases h),
  (fun _ h => by cases h),
  (fun _ h => by cases h),
  (fun _ h => by cases h),
  (fun _ h => by cases h),
  (fun _ h => by cases h),
  (fun _ h => by cases h),
  (fun _ h => by cases h),
  (fun _ h => by cases h),
  (fun _ h => by cases h),
  (fun _ h => by cases h),
  (fun _ h => by cases h),
  (fun _ h => by cases h),
  (fun _ h => by cases h),
  (fun _ h => by cases h),
  (fun _ h => by cases h),
  (fun _ h => by cases h),
  (fun _ h => by cases h),
  (fun _ h => by cases h),
  (fun _ h => by cases h),
  (fun _ h => by cases h),
  (fun _ h => by cases h),
  (fun _ h => by cases h),
  (fun _ h => by cases h), trivial⟩
