/-! The law and its wrappers: words and rows, by program (wip/whole/tools/gen4.py). -/
theorem gl_of {w : Cond} (i : Nat) (h : lw_tbl[i]? = some w) (hg : goodWord w = true) : w ∈ pg_G := List.mem_filter.mpr ⟨List.mem_of_getElem? h, hg⟩
theorem gl_44 : (Jvm.Cond.initialized "PartitionKernelLaw") ∈ pg_G := gl_of 44 (by decide +kernel) (by decide +kernel)
theorem gl_45 : (Jvm.Cond.initialized "PartitionKernel") ∈ pg_G := gl_of 45 (by decide +kernel) (by decide +kernel)
theorem gl_52 : (Jvm.Cond.initialized "PartitionKernelModel") ∈ pg_G := gl_of 52 (by decide +kernel) (by decide +kernel)
theorem gl_61 : (Jvm.Cond.classLink "PartitionKernelLaw" (8 : Nat) "PartitionKernel") ∈ pg_G := gl_of 61 (by decide +kernel) (by decide +kernel)
theorem gl_62 : (Jvm.Cond.instantiable "PartitionKernel" (8 : Nat)) ∈ pg_G := gl_of 62 (by decide +kernel) (by decide +kernel)
theorem gl_63 : (Jvm.Cond.methodLink "PartitionKernelLaw" (41 : Nat) ({ cls := "PartitionKernel", name := "<init>", desc := "()V" } : Jvm.MethodName)) ∈ pg_G := gl_of 63 (by decide +kernel) (by decide +kernel)
theorem gl_64 : (Jvm.Cond.instanceMethod ({ cls := "PartitionKernel", name := "<init>", desc := "()V" } : Jvm.MethodName)) ∈ pg_G := gl_of 64 (by decide +kernel) (by decide +kernel)
theorem gl_65 : (Jvm.Cond.code ({ cls := "PartitionKernel", name := "<init>", desc := "()V" } : Jvm.MethodName) prog_1_method_1_code (2 : Nat) (Option.none : Option Jvm.ClassFile.FieldType)) ∈ pg_G := gl_of 65 (by decide +kernel) (by decide +kernel)
theorem gl_299 : (Jvm.Cond.methodLink "PartitionKernelLaw" (78 : Nat) ({ cls := "PartitionKernel", name := "peek", desc := "(II)I" } : Jvm.MethodName)) ∈ pg_G := gl_of 299 (by decide +kernel) (by decide +kernel)
theorem gl_300 : (Jvm.Cond.instanceMethod ({ cls := "PartitionKernel", name := "peek", desc := "(II)I" } : Jvm.MethodName)) ∈ pg_G := gl_of 300 (by decide +kernel) (by decide +kernel)
theorem gl_301 : (Jvm.Cond.selects "PartitionKernel" ({ cls := "PartitionKernel", name := "peek", desc := "(II)I" } : Jvm.MethodName) ({ cls := "PartitionKernel", name := "peek", desc := "(II)I" } : Jvm.MethodName)) ∈ pg_G := gl_of 301 (by decide +kernel) (by decide +kernel)
theorem gl_302 : (Jvm.Cond.code ({ cls := "PartitionKernel", name := "peek", desc := "(II)I" } : Jvm.MethodName) prog_1_method_9_code (4 : Nat) (Option.some Jvm.ClassFile.FieldType.int)) ∈ pg_G := gl_of 302 (by decide +kernel) (by decide +kernel)
theorem gl_317 : (Jvm.Cond.methodLink "PartitionKernelLaw" (83 : Nat) ({ cls := "PartitionKernel", name := "register", desc := "(III)I" } : Jvm.MethodName)) ∈ pg_G := gl_of 317 (by decide +kernel) (by decide +kernel)
theorem gl_318 : (Jvm.Cond.instanceMethod ({ cls := "PartitionKernel", name := "register", desc := "(III)I" } : Jvm.MethodName)) ∈ pg_G := gl_of 318 (by decide +kernel) (by decide +kernel)
theorem gl_319 : (Jvm.Cond.selects "PartitionKernel" ({ cls := "PartitionKernel", name := "register", desc := "(III)I" } : Jvm.MethodName) ({ cls := "PartitionKernel", name := "register", desc := "(III)I" } : Jvm.MethodName)) ∈ pg_G := gl_of 319 (by decide +kernel) (by decide +kernel)
theorem gl_320 : (Jvm.Cond.code ({ cls := "PartitionKernel", name := "register", desc := "(III)I" } : Jvm.MethodName) prog_1_method_10_code (5 : Nat) (Option.some Jvm.ClassFile.FieldType.int)) ∈ pg_G := gl_of 320 (by decide +kernel) (by decide +kernel)
theorem gl_333 : (Jvm.Cond.methodLink "PartitionKernelLaw" (88 : Nat) ({ cls := "PartitionKernel", name := "state", desc := "(III)I" } : Jvm.MethodName)) ∈ pg_G := gl_of 333 (by decide +kernel) (by decide +kernel)
theorem gl_334 : (Jvm.Cond.instanceMethod ({ cls := "PartitionKernel", name := "state", desc := "(III)I" } : Jvm.MethodName)) ∈ pg_G := gl_of 334 (by decide +kernel) (by decide +kernel)
theorem gl_335 : (Jvm.Cond.selects "PartitionKernel" ({ cls := "PartitionKernel", name := "state", desc := "(III)I" } : Jvm.MethodName) ({ cls := "PartitionKernel", name := "state", desc := "(III)I" } : Jvm.MethodName)) ∈ pg_G := gl_of 335 (by decide +kernel) (by decide +kernel)
theorem gl_336 : (Jvm.Cond.code ({ cls := "PartitionKernel", name := "state", desc := "(III)I" } : Jvm.MethodName) prog_1_method_11_code (5 : Nat) (Option.some Jvm.ClassFile.FieldType.int)) ∈ pg_G := gl_of 336 (by decide +kernel) (by decide +kernel)
theorem gl_341 : (Jvm.Cond.methodLink "PartitionKernelLaw" (92 : Nat) ({ cls := "PartitionKernel", name := "partition", desc := "(II)I" } : Jvm.MethodName)) ∈ pg_G := gl_of 341 (by decide +kernel) (by decide +kernel)
theorem gl_342 : (Jvm.Cond.instanceMethod ({ cls := "PartitionKernel", name := "partition", desc := "(II)I" } : Jvm.MethodName)) ∈ pg_G := gl_of 342 (by decide +kernel) (by decide +kernel)
theorem gl_343 : (Jvm.Cond.selects "PartitionKernel" ({ cls := "PartitionKernel", name := "partition", desc := "(II)I" } : Jvm.MethodName) ({ cls := "PartitionKernel", name := "partition", desc := "(II)I" } : Jvm.MethodName)) ∈ pg_G := gl_of 343 (by decide +kernel) (by decide +kernel)
theorem gl_344 : (Jvm.Cond.code ({ cls := "PartitionKernel", name := "partition", desc := "(II)I" } : Jvm.MethodName) prog_1_method_12_code (4 : Nat) (Option.some Jvm.ClassFile.FieldType.int)) ∈ pg_G := gl_of 344 (by decide +kernel) (by decide +kernel)
theorem gl_364 : (Jvm.Cond.methodLink "PartitionKernelLaw" (96 : Nat) ({ cls := "PartitionKernel", name := "traffic", desc := "(II)I" } : Jvm.MethodName)) ∈ pg_G := gl_of 364 (by decide +kernel) (by decide +kernel)
theorem gl_365 : (Jvm.Cond.instanceMethod ({ cls := "PartitionKernel", name := "traffic", desc := "(II)I" } : Jvm.MethodName)) ∈ pg_G := gl_of 365 (by decide +kernel) (by decide +kernel)
theorem gl_366 : (Jvm.Cond.selects "PartitionKernel" ({ cls := "PartitionKernel", name := "traffic", desc := "(II)I" } : Jvm.MethodName) ({ cls := "PartitionKernel", name := "traffic", desc := "(II)I" } : Jvm.MethodName)) ∈ pg_G := gl_of 366 (by decide +kernel) (by decide +kernel)
theorem gl_367 : (Jvm.Cond.code ({ cls := "PartitionKernel", name := "traffic", desc := "(II)I" } : Jvm.MethodName) prog_1_method_13_code (4 : Nat) (Option.some Jvm.ClassFile.FieldType.int)) ∈ pg_G := gl_of 367 (by decide +kernel) (by decide +kernel)
theorem gl_376 : (Jvm.Cond.methodLink "PartitionKernelLaw" (100 : Nat) ({ cls := "PartitionKernel", name := "word", desc := "(II)I" } : Jvm.MethodName)) ∈ pg_G := gl_of 376 (by decide +kernel) (by decide +kernel)
theorem gl_377 : (Jvm.Cond.instanceMethod ({ cls := "PartitionKernel", name := "word", desc := "(II)I" } : Jvm.MethodName)) ∈ pg_G := gl_of 377 (by decide +kernel) (by decide +kernel)
theorem gl_378 : (Jvm.Cond.selects "PartitionKernel" ({ cls := "PartitionKernel", name := "word", desc := "(II)I" } : Jvm.MethodName) ({ cls := "PartitionKernel", name := "word", desc := "(II)I" } : Jvm.MethodName)) ∈ pg_G := gl_of 378 (by decide +kernel) (by decide +kernel)
theorem gl_379 : (Jvm.Cond.code ({ cls := "PartitionKernel", name := "word", desc := "(II)I" } : Jvm.MethodName) prog_1_method_14_code (4 : Nat) (Option.some Jvm.ClassFile.FieldType.int)) ∈ pg_G := gl_of 379 (by decide +kernel) (by decide +kernel)
theorem gl_388 : (Jvm.Cond.methodLink "PartitionKernelLaw" (104 : Nat) ({ cls := "PartitionKernel", name := "error", desc := "(II)I" } : Jvm.MethodName)) ∈ pg_G := gl_of 388 (by decide +kernel) (by decide +kernel)
theorem gl_389 : (Jvm.Cond.instanceMethod ({ cls := "PartitionKernel", name := "error", desc := "(II)I" } : Jvm.MethodName)) ∈ pg_G := gl_of 389 (by decide +kernel) (by decide +kernel)
theorem gl_390 : (Jvm.Cond.selects "PartitionKernel" ({ cls := "PartitionKernel", name := "error", desc := "(II)I" } : Jvm.MethodName) ({ cls := "PartitionKernel", name := "error", desc := "(II)I" } : Jvm.MethodName)) ∈ pg_G := gl_of 390 (by decide +kernel) (by decide +kernel)
theorem gl_391 : (Jvm.Cond.code ({ cls := "PartitionKernel", name := "error", desc := "(II)I" } : Jvm.MethodName) prog_1_method_15_code (3 : Nat) (Option.some Jvm.ClassFile.FieldType.int)) ∈ pg_G := gl_of 391 (by decide +kernel) (by decide +kernel)
theorem gl_396 : (Jvm.Cond.methodLink "PartitionKernelLaw" (108 : Nat) ({ cls := "PartitionKernel", name := "about", desc := "(I)I" } : Jvm.MethodName)) ∈ pg_G := gl_of 396 (by decide +kernel) (by decide +kernel)
theorem gl_397 : (Jvm.Cond.instanceMethod ({ cls := "PartitionKernel", name := "about", desc := "(I)I" } : Jvm.MethodName)) ∈ pg_G := gl_of 397 (by decide +kernel) (by decide +kernel)
theorem gl_398 : (Jvm.Cond.selects "PartitionKernel" ({ cls := "PartitionKernel", name := "about", desc := "(I)I" } : Jvm.MethodName) ({ cls := "PartitionKernel", name := "about", desc := "(I)I" } : Jvm.MethodName)) ∈ pg_G := gl_of 398 (by decide +kernel) (by decide +kernel)
theorem gl_399 : (Jvm.Cond.code ({ cls := "PartitionKernel", name := "about", desc := "(I)I" } : Jvm.MethodName) prog_1_method_16_code (2 : Nat) (Option.some Jvm.ClassFile.FieldType.int)) ∈ pg_G := gl_of 399 (by decide +kernel) (by decide +kernel)
theorem gl_404 : (Jvm.Cond.methodLink "PartitionKernelLaw" (45 : Nat) ({ cls := "PartitionKernelLaw", name := "window", desc := "(LPartitionKernel;II)I" } : Jvm.MethodName)) ∈ pg_G := gl_of 404 (by decide +kernel) (by decide +kernel)
theorem gl_405 : (Jvm.Cond.static ({ cls := "PartitionKernelLaw", name := "window", desc := "(LPartitionKernel;II)I" } : Jvm.MethodName)) ∈ pg_G := gl_of 405 (by decide +kernel) (by decide +kernel)
theorem gl_406 : (Jvm.Cond.codeWith ({ cls := "PartitionKernelLaw", name := "window", desc := "(LPartitionKernel;II)I" } : Jvm.MethodName) method_3_code (4 : Nat) (Option.some Jvm.ClassFile.FieldType.int) [((0 : Nat), (6 : Nat), (9 : Nat), (13 : Nat)), ((0 : Nat), (6 : Nat), (12 : Nat), (15 : Nat)), ((0 : Nat), (6 : Nat), (15 : Nat), (17 : Nat))]) ∈ pg_G := gl_of 406 (by decide +kernel) (by decide +kernel)
theorem gl_407 : (Jvm.Cond.classLink "PartitionKernelLaw" (13 : Nat) "java/lang/IndexOutOfBoundsException") ∈ pg_G := gl_of 407 (by decide +kernel) (by decide +kernel)
theorem gl_408 : (Jvm.Cond.classLink "PartitionKernelLaw" (15 : Nat) "java/lang/IllegalArgumentException") ∈ pg_G := gl_of 408 (by decide +kernel) (by decide +kernel)
theorem gl_409 : (Jvm.Cond.classLink "PartitionKernelLaw" (17 : Nat) "java/lang/IllegalStateException") ∈ pg_G := gl_of 409 (by decide +kernel) (by decide +kernel)
theorem gl_410 : (Jvm.Cond.methodLink "PartitionKernelLaw" (7 : Nat) ({ cls := "PartitionKernel", name := "window", desc := "(II)V" } : Jvm.MethodName)) ∈ pg_G := gl_of 410 (by decide +kernel) (by decide +kernel)
theorem gl_411 : (Jvm.Cond.instanceMethod ({ cls := "PartitionKernel", name := "window", desc := "(II)V" } : Jvm.MethodName)) ∈ pg_G := gl_of 411 (by decide +kernel) (by decide +kernel)
theorem gl_412 : (Jvm.Cond.selects "PartitionKernel" ({ cls := "PartitionKernel", name := "window", desc := "(II)V" } : Jvm.MethodName) ({ cls := "PartitionKernel", name := "window", desc := "(II)V" } : Jvm.MethodName)) ∈ pg_G := gl_of 412 (by decide +kernel) (by decide +kernel)
theorem gl_413 : (Jvm.Cond.code ({ cls := "PartitionKernel", name := "window", desc := "(II)V" } : Jvm.MethodName) prog_1_method_2_code (3 : Nat) (Option.none : Option Jvm.ClassFile.FieldType)) ∈ pg_G := gl_of 413 (by decide +kernel) (by decide +kernel)
theorem gl_518 : (Jvm.Cond.methodLink "PartitionKernelLaw" (55 : Nat) ({ cls := "PartitionKernelLaw", name := "process", desc := "(LPartitionKernel;IIIII[J)I" } : Jvm.MethodName)) ∈ pg_G := gl_of 518 (by decide +kernel) (by decide +kernel)
theorem gl_519 : (Jvm.Cond.static ({ cls := "PartitionKernelLaw", name := "process", desc := "(LPartitionKernel;IIIII[J)I" } : Jvm.MethodName)) ∈ pg_G := gl_of 519 (by decide +kernel) (by decide +kernel)
theorem gl_520 : (Jvm.Cond.codeWith ({ cls := "PartitionKernelLaw", name := "process", desc := "(LPartitionKernel;IIIII[J)I" } : Jvm.MethodName) method_4_code (8 : Nat) (Option.some Jvm.ClassFile.FieldType.int) [((0 : Nat), (16 : Nat), (19 : Nat), (13 : Nat)), ((0 : Nat), (16 : Nat), (23 : Nat), (15 : Nat)), ((0 : Nat), (16 : Nat), (27 : Nat), (17 : Nat))]) ∈ pg_G := gl_of 520 (by decide +kernel) (by decide +kernel)
theorem gl_521 : (Jvm.Cond.methodLink "PartitionKernelLaw" (19 : Nat) ({ cls := "PartitionKernel", name := "process", desc := "(IIIII)I" } : Jvm.MethodName)) ∈ pg_G := gl_of 521 (by decide +kernel) (by decide +kernel)
theorem gl_522 : (Jvm.Cond.instanceMethod ({ cls := "PartitionKernel", name := "process", desc := "(IIIII)I" } : Jvm.MethodName)) ∈ pg_G := gl_of 522 (by decide +kernel) (by decide +kernel)
theorem gl_523 : (Jvm.Cond.selects "PartitionKernel" ({ cls := "PartitionKernel", name := "process", desc := "(IIIII)I" } : Jvm.MethodName) ({ cls := "PartitionKernel", name := "process", desc := "(IIIII)I" } : Jvm.MethodName)) ∈ pg_G := gl_of 523 (by decide +kernel) (by decide +kernel)
theorem gl_524 : (Jvm.Cond.code ({ cls := "PartitionKernel", name := "process", desc := "(IIIII)I" } : Jvm.MethodName) prog_1_method_3_code (8 : Nat) (Option.some Jvm.ClassFile.FieldType.int)) ∈ pg_G := gl_of 524 (by decide +kernel) (by decide +kernel)
theorem gl_538 : (Jvm.Cond.methodLink "PartitionKernelLaw" (59 : Nat) ({ cls := "PartitionKernelLaw", name := "channel", desc := "(LPartitionKernel;ZIII[J)I" } : Jvm.MethodName)) ∈ pg_G := gl_of 538 (by decide +kernel) (by decide +kernel)
theorem gl_539 : (Jvm.Cond.static ({ cls := "PartitionKernelLaw", name := "channel", desc := "(LPartitionKernel;ZIII[J)I" } : Jvm.MethodName)) ∈ pg_G := gl_of 539 (by decide +kernel) (by decide +kernel)
theorem gl_540 : (Jvm.Cond.codeWith ({ cls := "PartitionKernelLaw", name := "channel", desc := "(LPartitionKernel;ZIII[J)I" } : Jvm.MethodName) method_5_code (7 : Nat) (Option.some Jvm.ClassFile.FieldType.int) [((0 : Nat), (14 : Nat), (17 : Nat), (13 : Nat)), ((0 : Nat), (14 : Nat), (21 : Nat), (15 : Nat)), ((0 : Nat), (14 : Nat), (25 : Nat), (17 : Nat))]) ∈ pg_G := gl_of 540 (by decide +kernel) (by decide +kernel)
theorem gl_541 : (Jvm.Cond.methodLink "PartitionKernelLaw" (23 : Nat) ({ cls := "PartitionKernel", name := "channel", desc := "(ZIII)I" } : Jvm.MethodName)) ∈ pg_G := gl_of 541 (by decide +kernel) (by decide +kernel)
theorem gl_542 : (Jvm.Cond.instanceMethod ({ cls := "PartitionKernel", name := "channel", desc := "(ZIII)I" } : Jvm.MethodName)) ∈ pg_G := gl_of 542 (by decide +kernel) (by decide +kernel)
theorem gl_543 : (Jvm.Cond.selects "PartitionKernel" ({ cls := "PartitionKernel", name := "channel", desc := "(ZIII)I" } : Jvm.MethodName) ({ cls := "PartitionKernel", name := "channel", desc := "(ZIII)I" } : Jvm.MethodName)) ∈ pg_G := gl_of 543 (by decide +kernel) (by decide +kernel)
theorem gl_544 : (Jvm.Cond.code ({ cls := "PartitionKernel", name := "channel", desc := "(ZIII)I" } : Jvm.MethodName) prog_1_method_4_code (5 : Nat) (Option.some Jvm.ClassFile.FieldType.int)) ∈ pg_G := gl_of 544 (by decide +kernel) (by decide +kernel)
theorem gl_552 : (Jvm.Cond.methodLink "PartitionKernelLaw" (63 : Nat) ({ cls := "PartitionKernelLaw", name := "action", desc := "(LPartitionKernel;III)I" } : Jvm.MethodName)) ∈ pg_G := gl_of 552 (by decide +kernel) (by decide +kernel)
theorem gl_553 : (Jvm.Cond.static ({ cls := "PartitionKernelLaw", name := "action", desc := "(LPartitionKernel;III)I" } : Jvm.MethodName)) ∈ pg_G := gl_of 553 (by decide +kernel) (by decide +kernel)
theorem gl_554 : (Jvm.Cond.codeWith ({ cls := "PartitionKernelLaw", name := "action", desc := "(LPartitionKernel;III)I" } : Jvm.MethodName) method_6_code (5 : Nat) (Option.some Jvm.ClassFile.FieldType.int) [((0 : Nat), (7 : Nat), (10 : Nat), (13 : Nat)), ((0 : Nat), (7 : Nat), (14 : Nat), (15 : Nat))]) ∈ pg_G := gl_of 554 (by decide +kernel) (by decide +kernel)
theorem gl_555 : (Jvm.Cond.methodLink "PartitionKernelLaw" (27 : Nat) ({ cls := "PartitionKernel", name := "action", desc := "(III)V" } : Jvm.MethodName)) ∈ pg_G := gl_of 555 (by decide +kernel) (by decide +kernel)
theorem gl_556 : (Jvm.Cond.instanceMethod ({ cls := "PartitionKernel", name := "action", desc := "(III)V" } : Jvm.MethodName)) ∈ pg_G := gl_of 556 (by decide +kernel) (by decide +kernel)
theorem gl_557 : (Jvm.Cond.selects "PartitionKernel" ({ cls := "PartitionKernel", name := "action", desc := "(III)V" } : Jvm.MethodName) ({ cls := "PartitionKernel", name := "action", desc := "(III)V" } : Jvm.MethodName)) ∈ pg_G := gl_of 557 (by decide +kernel) (by decide +kernel)
theorem gl_558 : (Jvm.Cond.code ({ cls := "PartitionKernel", name := "action", desc := "(III)V" } : Jvm.MethodName) prog_1_method_5_code (5 : Nat) (Option.none : Option Jvm.ClassFile.FieldType)) ∈ pg_G := gl_of 558 (by decide +kernel) (by decide +kernel)
theorem gl_561 : (Jvm.Cond.methodLink "PartitionKernelLaw" (67 : Nat) ({ cls := "PartitionKernelLaw", name := "poke", desc := "(LPartitionKernel;III)I" } : Jvm.MethodName)) ∈ pg_G := gl_of 561 (by decide +kernel) (by decide +kernel)
theorem gl_562 : (Jvm.Cond.static ({ cls := "PartitionKernelLaw", name := "poke", desc := "(LPartitionKernel;III)I" } : Jvm.MethodName)) ∈ pg_G := gl_of 562 (by decide +kernel) (by decide +kernel)
theorem gl_563 : (Jvm.Cond.codeWith ({ cls := "PartitionKernelLaw", name := "poke", desc := "(LPartitionKernel;III)I" } : Jvm.MethodName) method_7_code (5 : Nat) (Option.some Jvm.ClassFile.FieldType.int) [((0 : Nat), (7 : Nat), (10 : Nat), (13 : Nat))]) ∈ pg_G := gl_of 563 (by decide +kernel) (by decide +kernel)
theorem gl_564 : (Jvm.Cond.methodLink "PartitionKernelLaw" (31 : Nat) ({ cls := "PartitionKernel", name := "poke", desc := "(III)V" } : Jvm.MethodName)) ∈ pg_G := gl_of 564 (by decide +kernel) (by decide +kernel)
theorem gl_565 : (Jvm.Cond.instanceMethod ({ cls := "PartitionKernel", name := "poke", desc := "(III)V" } : Jvm.MethodName)) ∈ pg_G := gl_of 565 (by decide +kernel) (by decide +kernel)
theorem gl_566 : (Jvm.Cond.selects "PartitionKernel" ({ cls := "PartitionKernel", name := "poke", desc := "(III)V" } : Jvm.MethodName) ({ cls := "PartitionKernel", name := "poke", desc := "(III)V" } : Jvm.MethodName)) ∈ pg_G := gl_of 566 (by decide +kernel) (by decide +kernel)
theorem gl_567 : (Jvm.Cond.code ({ cls := "PartitionKernel", name := "poke", desc := "(III)V" } : Jvm.MethodName) prog_1_method_6_code (5 : Nat) (Option.none : Option Jvm.ClassFile.FieldType)) ∈ pg_G := gl_of 567 (by decide +kernel) (by decide +kernel)
theorem gl_574 : (Jvm.Cond.methodLink "PartitionKernelLaw" (70 : Nat) ({ cls := "PartitionKernelLaw", name := "begin", desc := "(LPartitionKernel;)I" } : Jvm.MethodName)) ∈ pg_G := gl_of 574 (by decide +kernel) (by decide +kernel)
theorem gl_575 : (Jvm.Cond.static ({ cls := "PartitionKernelLaw", name := "begin", desc := "(LPartitionKernel;)I" } : Jvm.MethodName)) ∈ pg_G := gl_of 575 (by decide +kernel) (by decide +kernel)
theorem gl_576 : (Jvm.Cond.codeWith ({ cls := "PartitionKernelLaw", name := "begin", desc := "(LPartitionKernel;)I" } : Jvm.MethodName) method_8_code (2 : Nat) (Option.some Jvm.ClassFile.FieldType.int) [((0 : Nat), (4 : Nat), (7 : Nat), (17 : Nat))]) ∈ pg_G := gl_of 576 (by decide +kernel) (by decide +kernel)
theorem gl_577 : (Jvm.Cond.methodLink "PartitionKernelLaw" (34 : Nat) ({ cls := "PartitionKernel", name := "begin", desc := "()V" } : Jvm.MethodName)) ∈ pg_G := gl_of 577 (by decide +kernel) (by decide +kernel)
theorem gl_578 : (Jvm.Cond.instanceMethod ({ cls := "PartitionKernel", name := "begin", desc := "()V" } : Jvm.MethodName)) ∈ pg_G := gl_of 578 (by decide +kernel) (by decide +kernel)
theorem gl_579 : (Jvm.Cond.selects "PartitionKernel" ({ cls := "PartitionKernel", name := "begin", desc := "()V" } : Jvm.MethodName) ({ cls := "PartitionKernel", name := "begin", desc := "()V" } : Jvm.MethodName)) ∈ pg_G := gl_of 579 (by decide +kernel) (by decide +kernel)
theorem gl_580 : (Jvm.Cond.code ({ cls := "PartitionKernel", name := "begin", desc := "()V" } : Jvm.MethodName) prog_1_method_7_code (2 : Nat) (Option.none : Option Jvm.ClassFile.FieldType)) ∈ pg_G := gl_of 580 (by decide +kernel) (by decide +kernel)
theorem gl_602 : (Jvm.Cond.methodLink "PartitionKernelLaw" (74 : Nat) ({ cls := "PartitionKernelLaw", name := "run", desc := "(LPartitionKernel;I[J)I" } : Jvm.MethodName)) ∈ pg_G := gl_of 602 (by decide +kernel) (by decide +kernel)
theorem gl_603 : (Jvm.Cond.static ({ cls := "PartitionKernelLaw", name := "run", desc := "(LPartitionKernel;I[J)I" } : Jvm.MethodName)) ∈ pg_G := gl_of 603 (by decide +kernel) (by decide +kernel)
theorem gl_604 : (Jvm.Cond.codeWith ({ cls := "PartitionKernelLaw", name := "run", desc := "(LPartitionKernel;I[J)I" } : Jvm.MethodName) method_9_code (4 : Nat) (Option.some Jvm.ClassFile.FieldType.int) [((0 : Nat), (9 : Nat), (12 : Nat), (15 : Nat)), ((0 : Nat), (9 : Nat), (15 : Nat), (17 : Nat))]) ∈ pg_G := gl_of 604 (by decide +kernel) (by decide +kernel)
theorem gl_605 : (Jvm.Cond.methodLink "PartitionKernelLaw" (37 : Nat) ({ cls := "PartitionKernel", name := "run", desc := "(I)I" } : Jvm.MethodName)) ∈ pg_G := gl_of 605 (by decide +kernel) (by decide +kernel)
theorem gl_606 : (Jvm.Cond.instanceMethod ({ cls := "PartitionKernel", name := "run", desc := "(I)I" } : Jvm.MethodName)) ∈ pg_G := gl_of 606 (by decide +kernel) (by decide +kernel)
theorem gl_607 : (Jvm.Cond.selects "PartitionKernel" ({ cls := "PartitionKernel", name := "run", desc := "(I)I" } : Jvm.MethodName) ({ cls := "PartitionKernel", name := "run", desc := "(I)I" } : Jvm.MethodName)) ∈ pg_G := gl_of 607 (by decide +kernel) (by decide +kernel)
theorem gl_608 : (Jvm.Cond.code ({ cls := "PartitionKernel", name := "run", desc := "(I)I" } : Jvm.MethodName) prog_1_method_8_code (5 : Nat) (Option.some Jvm.ClassFile.FieldType.int)) ∈ pg_G := gl_of 608 (by decide +kernel) (by decide +kernel)
theorem gl_790 : (Jvm.Cond.classLink "PartitionKernelLaw" (42 : Nat) "PartitionKernelModel") ∈ pg_G := gl_of 790 (by decide +kernel) (by decide +kernel)
theorem gl_791 : (Jvm.Cond.instantiable "PartitionKernelModel" (44 : Nat)) ∈ pg_G := gl_of 791 (by decide +kernel) (by decide +kernel)
theorem gl_792 : (Jvm.Cond.methodLink "PartitionKernelLaw" (44 : Nat) ({ cls := "PartitionKernelModel", name := "<init>", desc := "()V" } : Jvm.MethodName)) ∈ pg_G := gl_of 792 (by decide +kernel) (by decide +kernel)
theorem gl_793 : (Jvm.Cond.instanceMethod ({ cls := "PartitionKernelModel", name := "<init>", desc := "()V" } : Jvm.MethodName)) ∈ pg_G := gl_of 793 (by decide +kernel) (by decide +kernel)
theorem gl_794 : (Jvm.Cond.code ({ cls := "PartitionKernelModel", name := "<init>", desc := "()V" } : Jvm.MethodName) prog_10_method_1_code (2 : Nat) (Option.none : Option Jvm.ClassFile.FieldType)) ∈ pg_G := gl_of 794 (by decide +kernel) (by decide +kernel)
theorem gl_930 : (Jvm.Cond.methodLink "PartitionKernelLaw" (51 : Nat) ({ cls := "PartitionKernelModel", name := "thrown", desc := "()I" } : Jvm.MethodName)) ∈ pg_G := gl_of 930 (by decide +kernel) (by decide +kernel)
theorem gl_931 : (Jvm.Cond.instanceMethod ({ cls := "PartitionKernelModel", name := "thrown", desc := "()I" } : Jvm.MethodName)) ∈ pg_G := gl_of 931 (by decide +kernel) (by decide +kernel)
theorem gl_932 : (Jvm.Cond.selects "PartitionKernelModel" ({ cls := "PartitionKernelModel", name := "thrown", desc := "()I" } : Jvm.MethodName) ({ cls := "PartitionKernelModel", name := "thrown", desc := "()I" } : Jvm.MethodName)) ∈ pg_G := gl_of 932 (by decide +kernel) (by decide +kernel)
theorem gl_933 : (Jvm.Cond.code ({ cls := "PartitionKernelModel", name := "thrown", desc := "()I" } : Jvm.MethodName) prog_10_method_2_code (1 : Nat) (Option.some Jvm.ClassFile.FieldType.int)) ∈ pg_G := gl_of 933 (by decide +kernel) (by decide +kernel)
theorem gl_934 : (Jvm.Cond.methodLink "PartitionKernelLaw" (50 : Nat) ({ cls := "PartitionKernelModel", name := "window", desc := "(II)V" } : Jvm.MethodName)) ∈ pg_G := gl_of 934 (by decide +kernel) (by decide +kernel)
theorem gl_935 : (Jvm.Cond.instanceMethod ({ cls := "PartitionKernelModel", name := "window", desc := "(II)V" } : Jvm.MethodName)) ∈ pg_G := gl_of 935 (by decide +kernel) (by decide +kernel)
theorem gl_936 : (Jvm.Cond.selects "PartitionKernelModel" ({ cls := "PartitionKernelModel", name := "window", desc := "(II)V" } : Jvm.MethodName) ({ cls := "PartitionKernelModel", name := "window", desc := "(II)V" } : Jvm.MethodName)) ∈ pg_G := gl_of 936 (by decide +kernel) (by decide +kernel)
theorem gl_937 : (Jvm.Cond.code ({ cls := "PartitionKernelModel", name := "window", desc := "(II)V" } : Jvm.MethodName) prog_10_method_38_code (3 : Nat) (Option.none : Option Jvm.ClassFile.FieldType)) ∈ pg_G := gl_of 937 (by decide +kernel) (by decide +kernel)
theorem gl_941 : (Jvm.Cond.methodLink "PartitionKernelLaw" (58 : Nat) ({ cls := "PartitionKernelModel", name := "process", desc := "(IIIII)I" } : Jvm.MethodName)) ∈ pg_G := gl_of 941 (by decide +kernel) (by decide +kernel)
theorem gl_942 : (Jvm.Cond.instanceMethod ({ cls := "PartitionKernelModel", name := "process", desc := "(IIIII)I" } : Jvm.MethodName)) ∈ pg_G := gl_of 942 (by decide +kernel) (by decide +kernel)
theorem gl_943 : (Jvm.Cond.selects "PartitionKernelModel" ({ cls := "PartitionKernelModel", name := "process", desc := "(IIIII)I" } : Jvm.MethodName) ({ cls := "PartitionKernelModel", name := "process", desc := "(IIIII)I" } : Jvm.MethodName)) ∈ pg_G := gl_of 943 (by decide +kernel) (by decide +kernel)
theorem gl_944 : (Jvm.Cond.code ({ cls := "PartitionKernelModel", name := "process", desc := "(IIIII)I" } : Jvm.MethodName) prog_10_method_39_code (8 : Nat) (Option.some Jvm.ClassFile.FieldType.int)) ∈ pg_G := gl_of 944 (by decide +kernel) (by decide +kernel)
theorem gl_946 : (Jvm.Cond.methodLink "PartitionKernelLaw" (62 : Nat) ({ cls := "PartitionKernelModel", name := "channel", desc := "(ZIII)I" } : Jvm.MethodName)) ∈ pg_G := gl_of 946 (by decide +kernel) (by decide +kernel)
theorem gl_947 : (Jvm.Cond.instanceMethod ({ cls := "PartitionKernelModel", name := "channel", desc := "(ZIII)I" } : Jvm.MethodName)) ∈ pg_G := gl_of 947 (by decide +kernel) (by decide +kernel)
theorem gl_948 : (Jvm.Cond.selects "PartitionKernelModel" ({ cls := "PartitionKernelModel", name := "channel", desc := "(ZIII)I" } : Jvm.MethodName) ({ cls := "PartitionKernelModel", name := "channel", desc := "(ZIII)I" } : Jvm.MethodName)) ∈ pg_G := gl_of 948 (by decide +kernel) (by decide +kernel)
theorem gl_949 : (Jvm.Cond.code ({ cls := "PartitionKernelModel", name := "channel", desc := "(ZIII)I" } : Jvm.MethodName) prog_10_method_40_code (5 : Nat) (Option.some Jvm.ClassFile.FieldType.int)) ∈ pg_G := gl_of 949 (by decide +kernel) (by decide +kernel)
theorem gl_950 : (Jvm.Cond.methodLink "PartitionKernelLaw" (66 : Nat) ({ cls := "PartitionKernelModel", name := "action", desc := "(III)V" } : Jvm.MethodName)) ∈ pg_G := gl_of 950 (by decide +kernel) (by decide +kernel)
theorem gl_951 : (Jvm.Cond.instanceMethod ({ cls := "PartitionKernelModel", name := "action", desc := "(III)V" } : Jvm.MethodName)) ∈ pg_G := gl_of 951 (by decide +kernel) (by decide +kernel)
theorem gl_952 : (Jvm.Cond.selects "PartitionKernelModel" ({ cls := "PartitionKernelModel", name := "action", desc := "(III)V" } : Jvm.MethodName) ({ cls := "PartitionKernelModel", name := "action", desc := "(III)V" } : Jvm.MethodName)) ∈ pg_G := gl_of 952 (by decide +kernel) (by decide +kernel)
theorem gl_953 : (Jvm.Cond.code ({ cls := "PartitionKernelModel", name := "action", desc := "(III)V" } : Jvm.MethodName) prog_10_method_41_code (4 : Nat) (Option.none : Option Jvm.ClassFile.FieldType)) ∈ pg_G := gl_of 953 (by decide +kernel) (by decide +kernel)
theorem gl_954 : (Jvm.Cond.methodLink "PartitionKernelLaw" (69 : Nat) ({ cls := "PartitionKernelModel", name := "poke", desc := "(III)V" } : Jvm.MethodName)) ∈ pg_G := gl_of 954 (by decide +kernel) (by decide +kernel)
theorem gl_955 : (Jvm.Cond.instanceMethod ({ cls := "PartitionKernelModel", name := "poke", desc := "(III)V" } : Jvm.MethodName)) ∈ pg_G := gl_of 955 (by decide +kernel) (by decide +kernel)
theorem gl_956 : (Jvm.Cond.selects "PartitionKernelModel" ({ cls := "PartitionKernelModel", name := "poke", desc := "(III)V" } : Jvm.MethodName) ({ cls := "PartitionKernelModel", name := "poke", desc := "(III)V" } : Jvm.MethodName)) ∈ pg_G := gl_of 956 (by decide +kernel) (by decide +kernel)
theorem gl_957 : (Jvm.Cond.code ({ cls := "PartitionKernelModel", name := "poke", desc := "(III)V" } : Jvm.MethodName) prog_10_method_42_code (4 : Nat) (Option.none : Option Jvm.ClassFile.FieldType)) ∈ pg_G := gl_of 957 (by decide +kernel) (by decide +kernel)
theorem gl_965 : (Jvm.Cond.methodLink "PartitionKernelLaw" (73 : Nat) ({ cls := "PartitionKernelModel", name := "begin", desc := "()V" } : Jvm.MethodName)) ∈ pg_G := gl_of 965 (by decide +kernel) (by decide +kernel)
theorem gl_966 : (Jvm.Cond.instanceMethod ({ cls := "PartitionKernelModel", name := "begin", desc := "()V" } : Jvm.MethodName)) ∈ pg_G := gl_of 966 (by decide +kernel) (by decide +kernel)
theorem gl_967 : (Jvm.Cond.selects "PartitionKernelModel" ({ cls := "PartitionKernelModel", name := "begin", desc := "()V" } : Jvm.MethodName) ({ cls := "PartitionKernelModel", name := "begin", desc := "()V" } : Jvm.MethodName)) ∈ pg_G := gl_of 967 (by decide +kernel) (by decide +kernel)
theorem gl_968 : (Jvm.Cond.code ({ cls := "PartitionKernelModel", name := "begin", desc := "()V" } : Jvm.MethodName) prog_10_method_43_code (3 : Nat) (Option.none : Option Jvm.ClassFile.FieldType)) ∈ pg_G := gl_of 968 (by decide +kernel) (by decide +kernel)
theorem gl_977 : (Jvm.Cond.methodLink "PartitionKernelLaw" (77 : Nat) ({ cls := "PartitionKernelModel", name := "run", desc := "(I)I" } : Jvm.MethodName)) ∈ pg_G := gl_of 977 (by decide +kernel) (by decide +kernel)
theorem gl_978 : (Jvm.Cond.instanceMethod ({ cls := "PartitionKernelModel", name := "run", desc := "(I)I" } : Jvm.MethodName)) ∈ pg_G := gl_of 978 (by decide +kernel) (by decide +kernel)
theorem gl_979 : (Jvm.Cond.selects "PartitionKernelModel" ({ cls := "PartitionKernelModel", name := "run", desc := "(I)I" } : Jvm.MethodName) ({ cls := "PartitionKernelModel", name := "run", desc := "(I)I" } : Jvm.MethodName)) ∈ pg_G := gl_of 979 (by decide +kernel) (by decide +kernel)
theorem gl_980 : (Jvm.Cond.code ({ cls := "PartitionKernelModel", name := "run", desc := "(I)I" } : Jvm.MethodName) prog_10_method_44_code (4 : Nat) (Option.some Jvm.ClassFile.FieldType.int)) ∈ pg_G := gl_of 980 (by decide +kernel) (by decide +kernel)
theorem gl_1094 : (Jvm.Cond.methodLink "PartitionKernelLaw" (82 : Nat) ({ cls := "PartitionKernelModel", name := "peek", desc := "(II)I" } : Jvm.MethodName)) ∈ pg_G := gl_of 1094 (by decide +kernel) (by decide +kernel)
theorem gl_1095 : (Jvm.Cond.instanceMethod ({ cls := "PartitionKernelModel", name := "peek", desc := "(II)I" } : Jvm.MethodName)) ∈ pg_G := gl_of 1095 (by decide +kernel) (by decide +kernel)
theorem gl_1096 : (Jvm.Cond.selects "PartitionKernelModel" ({ cls := "PartitionKernelModel", name := "peek", desc := "(II)I" } : Jvm.MethodName) ({ cls := "PartitionKernelModel", name := "peek", desc := "(II)I" } : Jvm.MethodName)) ∈ pg_G := gl_of 1096 (by decide +kernel) (by decide +kernel)
theorem gl_1097 : (Jvm.Cond.code ({ cls := "PartitionKernelModel", name := "peek", desc := "(II)I" } : Jvm.MethodName) prog_10_method_45_code (3 : Nat) (Option.some Jvm.ClassFile.FieldType.int)) ∈ pg_G := gl_of 1097 (by decide +kernel) (by decide +kernel)
theorem gl_1098 : (Jvm.Cond.methodLink "PartitionKernelLaw" (87 : Nat) ({ cls := "PartitionKernelModel", name := "register", desc := "(III)I" } : Jvm.MethodName)) ∈ pg_G := gl_of 1098 (by decide +kernel) (by decide +kernel)
theorem gl_1099 : (Jvm.Cond.instanceMethod ({ cls := "PartitionKernelModel", name := "register", desc := "(III)I" } : Jvm.MethodName)) ∈ pg_G := gl_of 1099 (by decide +kernel) (by decide +kernel)
theorem gl_1100 : (Jvm.Cond.selects "PartitionKernelModel" ({ cls := "PartitionKernelModel", name := "register", desc := "(III)I" } : Jvm.MethodName) ({ cls := "PartitionKernelModel", name := "register", desc := "(III)I" } : Jvm.MethodName)) ∈ pg_G := gl_of 1100 (by decide +kernel) (by decide +kernel)
theorem gl_1101 : (Jvm.Cond.code ({ cls := "PartitionKernelModel", name := "register", desc := "(III)I" } : Jvm.MethodName) prog_10_method_47_code (4 : Nat) (Option.some Jvm.ClassFile.FieldType.int)) ∈ pg_G := gl_of 1101 (by decide +kernel) (by decide +kernel)
theorem gl_1106 : (Jvm.Cond.methodLink "PartitionKernelLaw" (91 : Nat) ({ cls := "PartitionKernelModel", name := "state", desc := "(III)I" } : Jvm.MethodName)) ∈ pg_G := gl_of 1106 (by decide +kernel) (by decide +kernel)
theorem gl_1107 : (Jvm.Cond.instanceMethod ({ cls := "PartitionKernelModel", name := "state", desc := "(III)I" } : Jvm.MethodName)) ∈ pg_G := gl_of 1107 (by decide +kernel) (by decide +kernel)
theorem gl_1108 : (Jvm.Cond.selects "PartitionKernelModel" ({ cls := "PartitionKernelModel", name := "state", desc := "(III)I" } : Jvm.MethodName) ({ cls := "PartitionKernelModel", name := "state", desc := "(III)I" } : Jvm.MethodName)) ∈ pg_G := gl_of 1108 (by decide +kernel) (by decide +kernel)
theorem gl_1109 : (Jvm.Cond.code ({ cls := "PartitionKernelModel", name := "state", desc := "(III)I" } : Jvm.MethodName) prog_10_method_48_code (5 : Nat) (Option.some Jvm.ClassFile.FieldType.int)) ∈ pg_G := gl_of 1109 (by decide +kernel) (by decide +kernel)
theorem gl_1110 : (Jvm.Cond.methodLink "PartitionKernelLaw" (95 : Nat) ({ cls := "PartitionKernelModel", name := "partition", desc := "(II)I" } : Jvm.MethodName)) ∈ pg_G := gl_of 1110 (by decide +kernel) (by decide +kernel)
theorem gl_1111 : (Jvm.Cond.instanceMethod ({ cls := "PartitionKernelModel", name := "partition", desc := "(II)I" } : Jvm.MethodName)) ∈ pg_G := gl_of 1111 (by decide +kernel) (by decide +kernel)
theorem gl_1112 : (Jvm.Cond.selects "PartitionKernelModel" ({ cls := "PartitionKernelModel", name := "partition", desc := "(II)I" } : Jvm.MethodName) ({ cls := "PartitionKernelModel", name := "partition", desc := "(II)I" } : Jvm.MethodName)) ∈ pg_G := gl_of 1112 (by decide +kernel) (by decide +kernel)
theorem gl_1113 : (Jvm.Cond.code ({ cls := "PartitionKernelModel", name := "partition", desc := "(II)I" } : Jvm.MethodName) prog_10_method_49_code (5 : Nat) (Option.some Jvm.ClassFile.FieldType.int)) ∈ pg_G := gl_of 1113 (by decide +kernel) (by decide +kernel)
theorem gl_1114 : (Jvm.Cond.methodLink "PartitionKernelLaw" (99 : Nat) ({ cls := "PartitionKernelModel", name := "traffic", desc := "(II)I" } : Jvm.MethodName)) ∈ pg_G := gl_of 1114 (by decide +kernel) (by decide +kernel)
theorem gl_1115 : (Jvm.Cond.instanceMethod ({ cls := "PartitionKernelModel", name := "traffic", desc := "(II)I" } : Jvm.MethodName)) ∈ pg_G := gl_of 1115 (by decide +kernel) (by decide +kernel)
theorem gl_1116 : (Jvm.Cond.selects "PartitionKernelModel" ({ cls := "PartitionKernelModel", name := "traffic", desc := "(II)I" } : Jvm.MethodName) ({ cls := "PartitionKernelModel", name := "traffic", desc := "(II)I" } : Jvm.MethodName)) ∈ pg_G := gl_of 1116 (by decide +kernel) (by decide +kernel)
theorem gl_1117 : (Jvm.Cond.code ({ cls := "PartitionKernelModel", name := "traffic", desc := "(II)I" } : Jvm.MethodName) prog_10_method_50_code (3 : Nat) (Option.some Jvm.ClassFile.FieldType.int)) ∈ pg_G := gl_of 1117 (by decide +kernel) (by decide +kernel)
theorem gl_1118 : (Jvm.Cond.methodLink "PartitionKernelLaw" (103 : Nat) ({ cls := "PartitionKernelModel", name := "word", desc := "(II)I" } : Jvm.MethodName)) ∈ pg_G := gl_of 1118 (by decide +kernel) (by decide +kernel)
theorem gl_1119 : (Jvm.Cond.instanceMethod ({ cls := "PartitionKernelModel", name := "word", desc := "(II)I" } : Jvm.MethodName)) ∈ pg_G := gl_of 1119 (by decide +kernel) (by decide +kernel)
theorem gl_1120 : (Jvm.Cond.selects "PartitionKernelModel" ({ cls := "PartitionKernelModel", name := "word", desc := "(II)I" } : Jvm.MethodName) ({ cls := "PartitionKernelModel", name := "word", desc := "(II)I" } : Jvm.MethodName)) ∈ pg_G := gl_of 1120 (by decide +kernel) (by decide +kernel)
theorem gl_1121 : (Jvm.Cond.code ({ cls := "PartitionKernelModel", name := "word", desc := "(II)I" } : Jvm.MethodName) prog_10_method_51_code (3 : Nat) (Option.some Jvm.ClassFile.FieldType.int)) ∈ pg_G := gl_of 1121 (by decide +kernel) (by decide +kernel)
theorem gl_1122 : (Jvm.Cond.methodLink "PartitionKernelLaw" (107 : Nat) ({ cls := "PartitionKernelModel", name := "error", desc := "(II)I" } : Jvm.MethodName)) ∈ pg_G := gl_of 1122 (by decide +kernel) (by decide +kernel)
theorem gl_1123 : (Jvm.Cond.instanceMethod ({ cls := "PartitionKernelModel", name := "error", desc := "(II)I" } : Jvm.MethodName)) ∈ pg_G := gl_of 1123 (by decide +kernel) (by decide +kernel)
theorem gl_1124 : (Jvm.Cond.selects "PartitionKernelModel" ({ cls := "PartitionKernelModel", name := "error", desc := "(II)I" } : Jvm.MethodName) ({ cls := "PartitionKernelModel", name := "error", desc := "(II)I" } : Jvm.MethodName)) ∈ pg_G := gl_of 1124 (by decide +kernel) (by decide +kernel)
theorem gl_1125 : (Jvm.Cond.code ({ cls := "PartitionKernelModel", name := "error", desc := "(II)I" } : Jvm.MethodName) prog_10_method_52_code (4 : Nat) (Option.some Jvm.ClassFile.FieldType.int)) ∈ pg_G := gl_of 1125 (by decide +kernel) (by decide +kernel)
theorem gl_1126 : (Jvm.Cond.methodLink "PartitionKernelLaw" (111 : Nat) ({ cls := "PartitionKernelModel", name := "about", desc := "(I)I" } : Jvm.MethodName)) ∈ pg_G := gl_of 1126 (by decide +kernel) (by decide +kernel)
theorem gl_1127 : (Jvm.Cond.instanceMethod ({ cls := "PartitionKernelModel", name := "about", desc := "(I)I" } : Jvm.MethodName)) ∈ pg_G := gl_of 1127 (by decide +kernel) (by decide +kernel)
theorem gl_1128 : (Jvm.Cond.selects "PartitionKernelModel" ({ cls := "PartitionKernelModel", name := "about", desc := "(I)I" } : Jvm.MethodName) ({ cls := "PartitionKernelModel", name := "about", desc := "(I)I" } : Jvm.MethodName)) ∈ pg_G := gl_of 1128 (by decide +kernel) (by decide +kernel)
theorem gl_1129 : (Jvm.Cond.code ({ cls := "PartitionKernelModel", name := "about", desc := "(I)I" } : Jvm.MethodName) prog_10_method_53_code (2 : Nat) (Option.some Jvm.ClassFile.FieldType.int)) ∈ pg_G := gl_of 1129 (by decide +kernel) (by decide +kernel)
theorem gl_1130 : (Jvm.Cond.arrayClass Jvm.ClassFile.FieldType.long) ∈ pg_G := gl_of 1130 (by decide +kernel) (by decide +kernel)
theorem gl_c70 : Jvm.Cond.code (pg_Z.1 70) (pg_Z.2.1 70) (pg_Z.2.2.1 70) (pg_Z.2.2.2.1 70) ∈ pg_G := gl_of 65 (by decide +kernel) (by decide +kernel)
theorem gl_c71 : Jvm.Cond.code (pg_Z.1 71) (pg_Z.2.1 71) (pg_Z.2.2.1 71) (pg_Z.2.2.2.1 71) ∈ pg_G := gl_of 413 (by decide +kernel) (by decide +kernel)
theorem gl_c72 : Jvm.Cond.code (pg_Z.1 72) (pg_Z.2.1 72) (pg_Z.2.2.1 72) (pg_Z.2.2.2.1 72) ∈ pg_G := gl_of 524 (by decide +kernel) (by decide +kernel)
theorem gl_c73 : Jvm.Cond.code (pg_Z.1 73) (pg_Z.2.1 73) (pg_Z.2.2.1 73) (pg_Z.2.2.2.1 73) ∈ pg_G := gl_of 544 (by decide +kernel) (by decide +kernel)
theorem gl_c74 : Jvm.Cond.code (pg_Z.1 74) (pg_Z.2.1 74) (pg_Z.2.2.1 74) (pg_Z.2.2.2.1 74) ∈ pg_G := gl_of 558 (by decide +kernel) (by decide +kernel)
theorem gl_c75 : Jvm.Cond.code (pg_Z.1 75) (pg_Z.2.1 75) (pg_Z.2.2.1 75) (pg_Z.2.2.2.1 75) ∈ pg_G := gl_of 567 (by decide +kernel) (by decide +kernel)
theorem gl_c76 : Jvm.Cond.code (pg_Z.1 76) (pg_Z.2.1 76) (pg_Z.2.2.1 76) (pg_Z.2.2.2.1 76) ∈ pg_G := gl_of 580 (by decide +kernel) (by decide +kernel)
theorem gl_c77 : Jvm.Cond.code (pg_Z.1 77) (pg_Z.2.1 77) (pg_Z.2.2.1 77) (pg_Z.2.2.2.1 77) ∈ pg_G := gl_of 608 (by decide +kernel) (by decide +kernel)
theorem gl_c78 : Jvm.Cond.code (pg_Z.1 78) (pg_Z.2.1 78) (pg_Z.2.2.1 78) (pg_Z.2.2.2.1 78) ∈ pg_G := gl_of 302 (by decide +kernel) (by decide +kernel)
theorem gl_c79 : Jvm.Cond.code (pg_Z.1 79) (pg_Z.2.1 79) (pg_Z.2.2.1 79) (pg_Z.2.2.2.1 79) ∈ pg_G := gl_of 320 (by decide +kernel) (by decide +kernel)
theorem gl_c80 : Jvm.Cond.code (pg_Z.1 80) (pg_Z.2.1 80) (pg_Z.2.2.1 80) (pg_Z.2.2.2.1 80) ∈ pg_G := gl_of 336 (by decide +kernel) (by decide +kernel)
theorem gl_c81 : Jvm.Cond.code (pg_Z.1 81) (pg_Z.2.1 81) (pg_Z.2.2.1 81) (pg_Z.2.2.2.1 81) ∈ pg_G := gl_of 344 (by decide +kernel) (by decide +kernel)
theorem gl_c82 : Jvm.Cond.code (pg_Z.1 82) (pg_Z.2.1 82) (pg_Z.2.2.1 82) (pg_Z.2.2.2.1 82) ∈ pg_G := gl_of 367 (by decide +kernel) (by decide +kernel)
theorem gl_c83 : Jvm.Cond.code (pg_Z.1 83) (pg_Z.2.1 83) (pg_Z.2.2.1 83) (pg_Z.2.2.2.1 83) ∈ pg_G := gl_of 379 (by decide +kernel) (by decide +kernel)
theorem gl_c84 : Jvm.Cond.code (pg_Z.1 84) (pg_Z.2.1 84) (pg_Z.2.2.1 84) (pg_Z.2.2.2.1 84) ∈ pg_G := gl_of 391 (by decide +kernel) (by decide +kernel)
theorem gl_c85 : Jvm.Cond.code (pg_Z.1 85) (pg_Z.2.1 85) (pg_Z.2.2.1 85) (pg_Z.2.2.2.1 85) ∈ pg_G := gl_of 399 (by decide +kernel) (by decide +kernel)
theorem gl_c99 : Jvm.Cond.code (pg_Z.1 99) (pg_Z.2.1 99) (pg_Z.2.2.1 99) (pg_Z.2.2.2.1 99) ∈ pg_G := gl_of 794 (by decide +kernel) (by decide +kernel)
theorem gl_c100 : Jvm.Cond.code (pg_Z.1 100) (pg_Z.2.1 100) (pg_Z.2.2.1 100) (pg_Z.2.2.2.1 100) ∈ pg_G := gl_of 933 (by decide +kernel) (by decide +kernel)
theorem gl_c135 : Jvm.Cond.code (pg_Z.1 135) (pg_Z.2.1 135) (pg_Z.2.2.1 135) (pg_Z.2.2.2.1 135) ∈ pg_G := gl_of 937 (by decide +kernel) (by decide +kernel)
theorem gl_c136 : Jvm.Cond.code (pg_Z.1 136) (pg_Z.2.1 136) (pg_Z.2.2.1 136) (pg_Z.2.2.2.1 136) ∈ pg_G := gl_of 944 (by decide +kernel) (by decide +kernel)
theorem gl_c137 : Jvm.Cond.code (pg_Z.1 137) (pg_Z.2.1 137) (pg_Z.2.2.1 137) (pg_Z.2.2.2.1 137) ∈ pg_G := gl_of 949 (by decide +kernel) (by decide +kernel)
theorem gl_c138 : Jvm.Cond.code (pg_Z.1 138) (pg_Z.2.1 138) (pg_Z.2.2.1 138) (pg_Z.2.2.2.1 138) ∈ pg_G := gl_of 953 (by decide +kernel) (by decide +kernel)
theorem gl_c139 : Jvm.Cond.code (pg_Z.1 139) (pg_Z.2.1 139) (pg_Z.2.2.1 139) (pg_Z.2.2.2.1 139) ∈ pg_G := gl_of 957 (by decide +kernel) (by decide +kernel)
theorem gl_c140 : Jvm.Cond.code (pg_Z.1 140) (pg_Z.2.1 140) (pg_Z.2.2.1 140) (pg_Z.2.2.2.1 140) ∈ pg_G := gl_of 968 (by decide +kernel) (by decide +kernel)
theorem gl_c141 : Jvm.Cond.code (pg_Z.1 141) (pg_Z.2.1 141) (pg_Z.2.2.1 141) (pg_Z.2.2.2.1 141) ∈ pg_G := gl_of 980 (by decide +kernel) (by decide +kernel)
theorem gl_c142 : Jvm.Cond.code (pg_Z.1 142) (pg_Z.2.1 142) (pg_Z.2.2.1 142) (pg_Z.2.2.2.1 142) ∈ pg_G := gl_of 1097 (by decide +kernel) (by decide +kernel)
theorem gl_c144 : Jvm.Cond.code (pg_Z.1 144) (pg_Z.2.1 144) (pg_Z.2.2.1 144) (pg_Z.2.2.2.1 144) ∈ pg_G := gl_of 1101 (by decide +kernel) (by decide +kernel)
theorem gl_c145 : Jvm.Cond.code (pg_Z.1 145) (pg_Z.2.1 145) (pg_Z.2.2.1 145) (pg_Z.2.2.2.1 145) ∈ pg_G := gl_of 1109 (by decide +kernel) (by decide +kernel)
theorem gl_c146 : Jvm.Cond.code (pg_Z.1 146) (pg_Z.2.1 146) (pg_Z.2.2.1 146) (pg_Z.2.2.2.1 146) ∈ pg_G := gl_of 1113 (by decide +kernel) (by decide +kernel)
theorem gl_c147 : Jvm.Cond.code (pg_Z.1 147) (pg_Z.2.1 147) (pg_Z.2.2.1 147) (pg_Z.2.2.2.1 147) ∈ pg_G := gl_of 1117 (by decide +kernel) (by decide +kernel)
theorem gl_c148 : Jvm.Cond.code (pg_Z.1 148) (pg_Z.2.1 148) (pg_Z.2.2.1 148) (pg_Z.2.2.2.1 148) ∈ pg_G := gl_of 1121 (by decide +kernel) (by decide +kernel)
theorem gl_c149 : Jvm.Cond.code (pg_Z.1 149) (pg_Z.2.1 149) (pg_Z.2.2.1 149) (pg_Z.2.2.2.1 149) ∈ pg_G := gl_of 1125 (by decide +kernel) (by decide +kernel)
theorem gl_c150 : Jvm.Cond.code (pg_Z.1 150) (pg_Z.2.1 150) (pg_Z.2.2.1 150) (pg_Z.2.2.2.1 150) ∈ pg_G := gl_of 1129 (by decide +kernel) (by decide +kernel)
theorem ugl_6 : ∀ w ∈ u_ws "PartitionKernel" pg_T6 8, w ∈ pg_G := by
  intro w hw
  rcases List.mem_cons.mp (oku_6 1000 w hw) with h | h
  · obtain ⟨j, hj, rfl⟩ := List.mem_map.mp hw
    unfold u_lay at h
    split at h <;> cases h
  · exact h
theorem okl_6 (cA : Nat → ClassId) {Ts : List Cond} (hG : ∀ w ∈ pg_G, w ∈ Ts) : mq_okc Ts pg_cl (pg_E cA) 6 "PartitionKernel" pg_T6 8 pg_t6 := by
  obtain ⟨h1, h2, -, h4⟩ := okc_6 cA 1000
  exact ⟨h1, h2, fun w hw => hG _ (ugl_6 w hw), h4⟩
theorem ugl_7 : ∀ w ∈ u_ws "PartitionKernelModel" pg_T7 44, w ∈ pg_G := by
  intro w hw
  rcases List.mem_cons.mp (oku_7 1000 w hw) with h | h
  · obtain ⟨j, hj, rfl⟩ := List.mem_map.mp hw
    unfold u_lay at h
    split at h <;> cases h
  · exact h
theorem okl_7 (cA : Nat → ClassId) {Ts : List Cond} (hG : ∀ w ∈ pg_G, w ∈ Ts) : mq_okc Ts pg_cl (pg_E cA) 7 "PartitionKernelModel" pg_T7 44 pg_t7 := by
  obtain ⟨h1, h2, -, h4⟩ := okc_7 cA 1000
  exact ⟨h1, h2, fun w hw => hG _ (ugl_7 w hw), h4⟩
/-- who is no kind of whom -/
def pg_pr : List (String × String) := [("java/lang/IllegalArgumentException", "java/lang/IndexOutOfBoundsException"), ("java/lang/IllegalStateException", "java/lang/IndexOutOfBoundsException"), ("java/lang/IllegalStateException", "java/lang/IllegalArgumentException")]
def pg_N (U : State) : Prop := ∀ q ∈ pg_pr, mq_cs U q.1 q.2 false
/-- a handler's place -/
def pw_okh (cc : ByteArray) (nL : Nat) (hh : List (Nat × Nat × Nat × Nat)) (pc x hp : Nat) : Prop :=
  ∃ (pre : List (Nat × Nat × Nat × Nat)) (a b h ct : Nat) (rest : List (Nat × Nat × Nat × Nat)), hh = pre ++ (a, b, h, ct) :: rest ∧ (a ≤ pc ∧ pc < b) ∧ ct ≠ 0 ∧ Jvm.Cond.classLink "PartitionKernelLaw" ct (pg_ex x) ∈ pg_G ∧ (∀ z ∈ pre, z.2.2.2 ≠ 0 ∧ ∃ n', Jvm.Cond.classLink "PartitionKernelLaw" z.2.2.2 n' ∈ pg_G ∧ (pg_ex x, n') ∈ pg_pr) ∧ ((∃ k : Fin 4, decode cc h = .ok (.astore_n k, 1) ∧ k.val < nL ∧ hp = h + 1) ∨ ∃ i, decode cc h = .ok (.astore i, 2) ∧ i < nL ∧ hp = h + 2)
set_option maxRecDepth 100000 in
theorem dw_151 : ∀ en ∈ cd_151, decode method_3_code en.1 = .ok (en.2.1, en.2.2.1 - en.1) := by decide +kernel
set_option maxRecDepth 100000 in
set_option maxHeartbeats 4000000 in
theorem ow_151 (cA : Nat → ClassId) {Ts : List Cond} (hG : ∀ w ∈ pg_G, w ∈ Ts) : ∀ en ∈ cd_151, mq_ok method_3_code 4 "PartitionKernelLaw" Ts pg_cl (pg_tys cA) (pg_E cA) pg_Z pg_sw pg_mx false (some .int) pg_X en := mq_ok_of dw_151 ⟨⟨rfl, trivial⟩,
  ⟨rfl, trivial⟩,
  ⟨rfl, trivial⟩,
  ⟨rfl, 2, _, rfl, ⟨okg_of 71 hG gl_c71, hG _ gl_45, hG _ gl_410, ⟨by decide +kernel, by decide +kernel, by decide +kernel⟩, by decide +kernel⟩, hG _ gl_411, rfl, hG _ gl_412⟩,
  ⟨rfl, (by decide : ((6 : Nat) : Int) + 12 = ((18 : Nat) : Int))⟩,
  ⟨rfl, (by decide : 3 < 4)⟩,
  ⟨rfl, (by decide : Int32.ofInt 1 = 1)⟩,
  ⟨rfl, Or.inr rfl⟩,
  ⟨rfl, (by decide : 3 < 4)⟩,
  ⟨rfl, (by decide : Int32.ofInt 2 = 2)⟩,
  ⟨rfl, Or.inr rfl⟩,
  ⟨rfl, (by decide : 3 < 4)⟩,
  ⟨rfl, (by decide : Int32.ofInt 3 = 3)⟩,
  ⟨rfl, Or.inr rfl⟩,
  ⟨rfl, (by decide : Int32.ofInt 0 = 0)⟩,
  ⟨rfl, Or.inr rfl⟩, trivial⟩
def hh_151 : List (Nat × Nat × Nat × Nat) := [(0, 6, 9, 13), (0, 6, 12, 15), (0, 6, 15, 17)]
def hn_151 : Nat → Nat → Option Nat := fun _ x => match x with
  | 50 => some 10
  | 51 => some 13
  | 52 => some 16
  | _ => none
theorem oh_151_50 : pw_okh method_3_code 4 hh_151 3 50 10 := ⟨[], 0, 6, 9, 13, [(0, 6, 12, 15), (0, 6, 15, 17)], rfl, ⟨by decide, by decide⟩, by decide, gl_407, (fun _ h => absurd h List.not_mem_nil), Or.inl ⟨3, by decide +kernel, by decide, rfl⟩⟩
theorem oh_151_51 : pw_okh method_3_code 4 hh_151 3 51 13 := ⟨[(0, 6, 9, 13)], 0, 6, 12, 15, [(0, 6, 15, 17)], rfl, ⟨by decide, by decide⟩, by decide, gl_408, (List.forall_mem_cons.mpr ⟨⟨by decide, _, gl_407, by decide +kernel⟩, (fun _ h => absurd h List.not_mem_nil)⟩), Or.inl ⟨3, by decide +kernel, by decide, rfl⟩⟩
theorem oh_151_52 : pw_okh method_3_code 4 hh_151 3 52 16 := ⟨[(0, 6, 9, 13), (0, 6, 12, 15)], 0, 6, 15, 17, [], rfl, ⟨by decide, by decide⟩, by decide, gl_409, (List.forall_mem_cons.mpr ⟨⟨by decide, _, gl_407, by decide +kernel⟩, (List.forall_mem_cons.mpr ⟨⟨by decide, _, gl_408, by decide +kernel⟩, (fun _ h => absurd h List.not_mem_nil)⟩)⟩), Or.inl ⟨3, by decide +kernel, by decide, rfl⟩⟩
set_option maxRecDepth 100000 in
theorem dw_152 : ∀ en ∈ cd_152, decode method_4_code en.1 = .ok (en.2.1, en.2.2.1 - en.1) := by decide +kernel
set_option maxRecDepth 100000 in
set_option maxHeartbeats 4000000 in
theorem ow_152 (cA : Nat → ClassId) {Ts : List Cond} (hG : ∀ w ∈ pg_G, w ∈ Ts) : ∀ en ∈ cd_152, mq_ok method_4_code 8 "PartitionKernelLaw" Ts pg_cl (pg_tys cA) (pg_E cA) pg_Z pg_sw pg_mx false (some .int) pg_X en := mq_ok_of dw_152 ⟨⟨rfl, trivial⟩,
  ⟨rfl, (by decide : Int32.ofInt 0 = 0)⟩,
  ⟨rfl, trivial⟩,
  ⟨rfl, trivial⟩,
  ⟨rfl, trivial⟩,
  ⟨rfl, trivial⟩,
  ⟨rfl, trivial⟩,
  ⟨rfl, trivial⟩,
  ⟨rfl, 5, _, rfl, ⟨okg_of 72 hG gl_c72, hG _ gl_45, hG _ gl_521, ⟨by decide +kernel, by decide +kernel, by decide +kernel⟩, by decide +kernel⟩, hG _ gl_522, rfl, hG _ gl_523⟩,
  ⟨rfl, trivial⟩,
  ⟨rfl, trivial⟩,
  ⟨rfl, (by decide : ((16 : Nat) : Int) + 15 = ((31 : Nat) : Int))⟩,
  ⟨rfl, (by decide : 7 < 8)⟩,
  ⟨rfl, (by decide : Int32.ofInt 1 = 1)⟩,
  ⟨rfl, Or.inr rfl⟩,
  ⟨rfl, (by decide : 7 < 8)⟩,
  ⟨rfl, (by decide : Int32.ofInt 2 = 2)⟩,
  ⟨rfl, Or.inr rfl⟩,
  ⟨rfl, (by decide : 7 < 8)⟩,
  ⟨rfl, (by decide : Int32.ofInt 3 = 3)⟩,
  ⟨rfl, Or.inr rfl⟩,
  ⟨rfl, (by decide : Int32.ofInt 0 = 0)⟩,
  ⟨rfl, Or.inr rfl⟩, trivial⟩
def hh_152 : List (Nat × Nat × Nat × Nat) := [(0, 16, 19, 13), (0, 16, 23, 15), (0, 16, 27, 17)]
def hn_152 : Nat → Nat → Option Nat := fun _ x => match x with
  | 50 => some 21
  | 51 => some 25
  | 52 => some 29
  | _ => none
theorem oh_152_50 : pw_okh method_4_code 8 hh_152 11 50 21 := ⟨[], 0, 16, 19, 13, [(0, 16, 23, 15), (0, 16, 27, 17)], rfl, ⟨by decide, by decide⟩, by decide, gl_407, (fun _ h => absurd h List.not_mem_nil), Or.inr ⟨7, by decide +kernel, by decide, rfl⟩⟩
theorem oh_152_51 : pw_okh method_4_code 8 hh_152 11 51 25 := ⟨[(0, 16, 19, 13)], 0, 16, 23, 15, [(0, 16, 27, 17)], rfl, ⟨by decide, by decide⟩, by decide, gl_408, (List.forall_mem_cons.mpr ⟨⟨by decide, _, gl_407, by decide +kernel⟩, (fun _ h => absurd h List.not_mem_nil)⟩), Or.inr ⟨7, by decide +kernel, by decide, rfl⟩⟩
theorem oh_152_52 : pw_okh method_4_code 8 hh_152 11 52 29 := ⟨[(0, 16, 19, 13), (0, 16, 23, 15)], 0, 16, 27, 17, [], rfl, ⟨by decide, by decide⟩, by decide, gl_409, (List.forall_mem_cons.mpr ⟨⟨by decide, _, gl_407, by decide +kernel⟩, (List.forall_mem_cons.mpr ⟨⟨by decide, _, gl_408, by decide +kernel⟩, (fun _ h => absurd h List.not_mem_nil)⟩)⟩), Or.inr ⟨7, by decide +kernel, by decide, rfl⟩⟩
set_option maxRecDepth 100000 in
theorem dw_153 : ∀ en ∈ cd_153, decode method_5_code en.1 = .ok (en.2.1, en.2.2.1 - en.1) := by decide +kernel
set_option maxRecDepth 100000 in
set_option maxHeartbeats 4000000 in
theorem ow_153 (cA : Nat → ClassId) {Ts : List Cond} (hG : ∀ w ∈ pg_G, w ∈ Ts) : ∀ en ∈ cd_153, mq_ok method_5_code 7 "PartitionKernelLaw" Ts pg_cl (pg_tys cA) (pg_E cA) pg_Z pg_sw pg_mx false (some .int) pg_X en := mq_ok_of dw_153 ⟨⟨rfl, trivial⟩,
  ⟨rfl, (by decide : Int32.ofInt 0 = 0)⟩,
  ⟨rfl, trivial⟩,
  ⟨rfl, trivial⟩,
  ⟨rfl, trivial⟩,
  ⟨rfl, trivial⟩,
  ⟨rfl, trivial⟩,
  ⟨rfl, 4, _, rfl, ⟨okg_of 73 hG gl_c73, hG _ gl_45, hG _ gl_541, ⟨by decide +kernel, by decide +kernel, by decide +kernel⟩, by decide +kernel⟩, hG _ gl_542, rfl, hG _ gl_543⟩,
  ⟨rfl, trivial⟩,
  ⟨rfl, trivial⟩,
  ⟨rfl, (by decide : ((14 : Nat) : Int) + 15 = ((29 : Nat) : Int))⟩,
  ⟨rfl, (by decide : 6 < 7)⟩,
  ⟨rfl, (by decide : Int32.ofInt 1 = 1)⟩,
  ⟨rfl, Or.inr rfl⟩,
  ⟨rfl, (by decide : 6 < 7)⟩,
  ⟨rfl, (by decide : Int32.ofInt 2 = 2)⟩,
  ⟨rfl, Or.inr rfl⟩,
  ⟨rfl, (by decide : 6 < 7)⟩,
  ⟨rfl, (by decide : Int32.ofInt 3 = 3)⟩,
  ⟨rfl, Or.inr rfl⟩,
  ⟨rfl, (by decide : Int32.ofInt 0 = 0)⟩,
  ⟨rfl, Or.inr rfl⟩, trivial⟩
def hh_153 : List (Nat × Nat × Nat × Nat) := [(0, 14, 17, 13), (0, 14, 21, 15), (0, 14, 25, 17)]
def hn_153 : Nat → Nat → Option Nat := fun _ x => match x with
  | 50 => some 19
  | 51 => some 23
  | 52 => some 27
  | _ => none
theorem oh_153_50 : pw_okh method_5_code 7 hh_153 9 50 19 := ⟨[], 0, 14, 17, 13, [(0, 14, 21, 15), (0, 14, 25, 17)], rfl, ⟨by decide, by decide⟩, by decide, gl_407, (fun _ h => absurd h List.not_mem_nil), Or.inr ⟨6, by decide +kernel, by decide, rfl⟩⟩
theorem oh_153_51 : pw_okh method_5_code 7 hh_153 9 51 23 := ⟨[(0, 14, 17, 13)], 0, 14, 21, 15, [(0, 14, 25, 17)], rfl, ⟨by decide, by decide⟩, by decide, gl_408, (List.forall_mem_cons.mpr ⟨⟨by decide, _, gl_407, by decide +kernel⟩, (fun _ h => absurd h List.not_mem_nil)⟩), Or.inr ⟨6, by decide +kernel, by decide, rfl⟩⟩
theorem oh_153_52 : pw_okh method_5_code 7 hh_153 9 52 27 := ⟨[(0, 14, 17, 13), (0, 14, 21, 15)], 0, 14, 25, 17, [], rfl, ⟨by decide, by decide⟩, by decide, gl_409, (List.forall_mem_cons.mpr ⟨⟨by decide, _, gl_407, by decide +kernel⟩, (List.forall_mem_cons.mpr ⟨⟨by decide, _, gl_408, by decide +kernel⟩, (fun _ h => absurd h List.not_mem_nil)⟩)⟩), Or.inr ⟨6, by decide +kernel, by decide, rfl⟩⟩
set_option maxRecDepth 100000 in
theorem dw_154 : ∀ en ∈ cd_154, decode method_6_code en.1 = .ok (en.2.1, en.2.2.1 - en.1) := by decide +kernel
set_option maxRecDepth 100000 in
set_option maxHeartbeats 4000000 in
theorem ow_154 (cA : Nat → ClassId) {Ts : List Cond} (hG : ∀ w ∈ pg_G, w ∈ Ts) : ∀ en ∈ cd_154, mq_ok method_6_code 5 "PartitionKernelLaw" Ts pg_cl (pg_tys cA) (pg_E cA) pg_Z pg_sw pg_mx false (some .int) pg_X en := mq_ok_of dw_154 ⟨⟨rfl, trivial⟩,
  ⟨rfl, trivial⟩,
  ⟨rfl, trivial⟩,
  ⟨rfl, trivial⟩,
  ⟨rfl, 3, _, rfl, ⟨okg_of 74 hG gl_c74, hG _ gl_45, hG _ gl_555, ⟨by decide +kernel, by decide +kernel, by decide +kernel⟩, by decide +kernel⟩, hG _ gl_556, rfl, hG _ gl_557⟩,
  ⟨rfl, (by decide : ((7 : Nat) : Int) + 11 = ((18 : Nat) : Int))⟩,
  ⟨rfl, (by decide : 4 < 5)⟩,
  ⟨rfl, (by decide : Int32.ofInt 1 = 1)⟩,
  ⟨rfl, Or.inr rfl⟩,
  ⟨rfl, (by decide : 4 < 5)⟩,
  ⟨rfl, (by decide : Int32.ofInt 2 = 2)⟩,
  ⟨rfl, Or.inr rfl⟩,
  ⟨rfl, (by decide : Int32.ofInt 0 = 0)⟩,
  ⟨rfl, Or.inr rfl⟩, trivial⟩
def hh_154 : List (Nat × Nat × Nat × Nat) := [(0, 7, 10, 13), (0, 7, 14, 15)]
def hn_154 : Nat → Nat → Option Nat := fun _ x => match x with
  | 50 => some 12
  | 51 => some 16
  | _ => none
theorem oh_154_50 : pw_okh method_6_code 5 hh_154 4 50 12 := ⟨[], 0, 7, 10, 13, [(0, 7, 14, 15)], rfl, ⟨by decide, by decide⟩, by decide, gl_407, (fun _ h => absurd h List.not_mem_nil), Or.inr ⟨4, by decide +kernel, by decide, rfl⟩⟩
theorem oh_154_51 : pw_okh method_6_code 5 hh_154 4 51 16 := ⟨[(0, 7, 10, 13)], 0, 7, 14, 15, [], rfl, ⟨by decide, by decide⟩, by decide, gl_408, (List.forall_mem_cons.mpr ⟨⟨by decide, _, gl_407, by decide +kernel⟩, (fun _ h => absurd h List.not_mem_nil)⟩), Or.inr ⟨4, by decide +kernel, by decide, rfl⟩⟩
set_option maxRecDepth 100000 in
theorem dw_155 : ∀ en ∈ cd_155, decode method_7_code en.1 = .ok (en.2.1, en.2.2.1 - en.1) := by decide +kernel
set_option maxRecDepth 100000 in
set_option maxHeartbeats 4000000 in
theorem ow_155 (cA : Nat → ClassId) {Ts : List Cond} (hG : ∀ w ∈ pg_G, w ∈ Ts) : ∀ en ∈ cd_155, mq_ok method_7_code 5 "PartitionKernelLaw" Ts pg_cl (pg_tys cA) (pg_E cA) pg_Z pg_sw pg_mx false (some .int) pg_X en := mq_ok_of dw_155 ⟨⟨rfl, trivial⟩,
  ⟨rfl, trivial⟩,
  ⟨rfl, trivial⟩,
  ⟨rfl, trivial⟩,
  ⟨rfl, 3, _, rfl, ⟨okg_of 75 hG gl_c75, hG _ gl_45, hG _ gl_564, ⟨by decide +kernel, by decide +kernel, by decide +kernel⟩, by decide +kernel⟩, hG _ gl_565, rfl, hG _ gl_566⟩,
  ⟨rfl, (by decide : ((7 : Nat) : Int) + 7 = ((14 : Nat) : Int))⟩,
  ⟨rfl, (by decide : 4 < 5)⟩,
  ⟨rfl, (by decide : Int32.ofInt 1 = 1)⟩,
  ⟨rfl, Or.inr rfl⟩,
  ⟨rfl, (by decide : Int32.ofInt 0 = 0)⟩,
  ⟨rfl, Or.inr rfl⟩, trivial⟩
def hh_155 : List (Nat × Nat × Nat × Nat) := [(0, 7, 10, 13)]
def hn_155 : Nat → Nat → Option Nat := fun _ x => match x with
  | 50 => some 12
  | _ => none
theorem oh_155_50 : pw_okh method_7_code 5 hh_155 4 50 12 := ⟨[], 0, 7, 10, 13, [], rfl, ⟨by decide, by decide⟩, by decide, gl_407, (fun _ h => absurd h List.not_mem_nil), Or.inr ⟨4, by decide +kernel, by decide, rfl⟩⟩
set_option maxRecDepth 100000 in
theorem dw_156 : ∀ en ∈ cd_156, decode method_8_code en.1 = .ok (en.2.1, en.2.2.1 - en.1) := by decide +kernel
set_option maxRecDepth 100000 in
set_option maxHeartbeats 4000000 in
theorem ow_156 (cA : Nat → ClassId) {Ts : List Cond} (hG : ∀ w ∈ pg_G, w ∈ Ts) : ∀ en ∈ cd_156, mq_ok method_8_code 2 "PartitionKernelLaw" Ts pg_cl (pg_tys cA) (pg_E cA) pg_Z pg_sw pg_mx false (some .int) pg_X en := mq_ok_of dw_156 ⟨⟨rfl, trivial⟩,
  ⟨rfl, 0, _, rfl, ⟨okg_of 76 hG gl_c76, hG _ gl_45, hG _ gl_577, ⟨by decide +kernel, by decide +kernel, by decide +kernel⟩, by decide +kernel⟩, hG _ gl_578, rfl, hG _ gl_579⟩,
  ⟨rfl, (by decide : ((4 : Nat) : Int) + 6 = ((10 : Nat) : Int))⟩,
  ⟨rfl, (by decide : 1 < 2)⟩,
  ⟨rfl, (by decide : Int32.ofInt 1 = 1)⟩,
  ⟨rfl, Or.inr rfl⟩,
  ⟨rfl, (by decide : Int32.ofInt 0 = 0)⟩,
  ⟨rfl, Or.inr rfl⟩, trivial⟩
def hh_156 : List (Nat × Nat × Nat × Nat) := [(0, 4, 7, 17)]
def hn_156 : Nat → Nat → Option Nat := fun _ x => match x with
  | 52 => some 8
  | _ => none
theorem oh_156_52 : pw_okh method_8_code 2 hh_156 1 52 8 := ⟨[], 0, 4, 7, 17, [], rfl, ⟨by decide, by decide⟩, by decide, gl_409, (fun _ h => absurd h List.not_mem_nil), Or.inl ⟨1, by decide +kernel, by decide, rfl⟩⟩
set_option maxRecDepth 100000 in
theorem dw_157 : ∀ en ∈ cd_157, decode method_9_code en.1 = .ok (en.2.1, en.2.2.1 - en.1) := by decide +kernel
set_option maxRecDepth 100000 in
set_option maxHeartbeats 4000000 in
theorem ow_157 (cA : Nat → ClassId) {Ts : List Cond} (hG : ∀ w ∈ pg_G, w ∈ Ts) : ∀ en ∈ cd_157, mq_ok method_9_code 4 "PartitionKernelLaw" Ts pg_cl (pg_tys cA) (pg_E cA) pg_Z pg_sw pg_mx false (some .int) pg_X en := mq_ok_of dw_157 ⟨⟨rfl, trivial⟩,
  ⟨rfl, (by decide : Int32.ofInt 0 = 0)⟩,
  ⟨rfl, trivial⟩,
  ⟨rfl, trivial⟩,
  ⟨rfl, 1, _, rfl, ⟨okg_of 77 hG gl_c77, hG _ gl_45, hG _ gl_605, ⟨by decide +kernel, by decide +kernel, by decide +kernel⟩, by decide +kernel⟩, hG _ gl_606, rfl, hG _ gl_607⟩,
  ⟨rfl, trivial⟩,
  ⟨rfl, trivial⟩,
  ⟨rfl, (by decide : ((9 : Nat) : Int) + 9 = ((18 : Nat) : Int))⟩,
  ⟨rfl, (by decide : 3 < 4)⟩,
  ⟨rfl, (by decide : Int32.ofInt 1 = 1)⟩,
  ⟨rfl, Or.inr rfl⟩,
  ⟨rfl, (by decide : 3 < 4)⟩,
  ⟨rfl, (by decide : Int32.ofInt 2 = 2)⟩,
  ⟨rfl, Or.inr rfl⟩,
  ⟨rfl, (by decide : Int32.ofInt 0 = 0)⟩,
  ⟨rfl, Or.inr rfl⟩, trivial⟩
def hh_157 : List (Nat × Nat × Nat × Nat) := [(0, 9, 12, 15), (0, 9, 15, 17)]
def hn_157 : Nat → Nat → Option Nat := fun _ x => match x with
  | 51 => some 13
  | 52 => some 16
  | _ => none
theorem oh_157_51 : pw_okh method_9_code 4 hh_157 4 51 13 := ⟨[], 0, 9, 12, 15, [(0, 9, 15, 17)], rfl, ⟨by decide, by decide⟩, by decide, gl_408, (fun _ h => absurd h List.not_mem_nil), Or.inl ⟨3, by decide +kernel, by decide, rfl⟩⟩
theorem oh_157_52 : pw_okh method_9_code 4 hh_157 4 52 16 := ⟨[(0, 9, 12, 15)], 0, 9, 15, 17, [], rfl, ⟨by decide, by decide⟩, by decide, gl_409, (List.forall_mem_cons.mpr ⟨⟨by decide, _, gl_408, by decide +kernel⟩, (fun _ h => absurd h List.not_mem_nil)⟩), Or.inl ⟨3, by decide +kernel, by decide, rfl⟩⟩
def pl_sw : Nat → List (Int32 × Nat) := fun k => match k with
  | 16 => [(0, 116), (1, 164), (2, 268), (3, 376), (4, 436), (5, 496), (6, 520), (7, 576), (8, 613), (9, 662), (10, 711), (11, 748), (12, 785), (13, 822), (14, 859)]
  | k => pg_sw k
def pl_cd : List mEn := [(0, .new 8, 3, 6, 0, 0, 0), (3, .dup, 4, 0, 0, 0, 0), (4, .invokespecial 41, 7, 71, 1, 0, 0), (7, .astore_n 1, 8, 0, 0, 0, 0), (8, .new 42, 11, 7, 0, 0, 0), (11, .dup, 12, 0, 0, 0, 0), (12, .invokespecial 44, 15, 100, 1, 0, 0), (15, .astore_n 2, 16, 0, 0, 0, 0), (16, .iconst 1, 17, 0, 0, 0, 1), (17, .newarray .long, 19, 40, 0, 0, 0), (19, .astore_n 3, 20, 0, 0, 0, 0), (20, .iconst 0, 21, 0, 0, 0, 0), (21, .istore 4, 23, 0, 0, 0, 0), (23, .iload 4, 25, 0, 0, 0, 0), (25, .aload_n 0, 26, 0, 0, 0, 0), (26, .arraylength, 27, 0, 0, 0, 0), (27, .bipush 6, 29, 0, 0, 0, 6), (29, .isub, 30, 0, 0, 0, 0), (30, .if_icmp .gt 860, 33, 890, 0, 0, 0), (33, .aload_n 0, 34, 0, 0, 0, 0), (34, .iload 4, 36, 0, 0, 0, 0), (36, .iaload, 37, 0, 0, 0, 0), (37, .bipush 15, 39, 0, 0, 0, 15), (39, .iand, 40, 0, 0, 0, 0), (40, .tableswitch 844 0 14 #[76, 124, 228, 336, 396, 456, 480, 536, 573, 622, 671, 708, 745, 782, 819], 116, 884, 16, 0, 0), (116, .aload_n 1, 117, 0, 0, 0, 0), (117, .aload_n 0, 118, 0, 0, 0, 0), (118, .iload 4, 120, 0, 0, 0, 0), (120, .iconst 1, 121, 0, 0, 0, 1), (121, .iadd, 122, 0, 0, 0, 0), (122, .iaload, 123, 0, 0, 0, 0), (123, .aload_n 0, 124, 0, 0, 0, 0), (124, .iload 4, 126, 0, 0, 0, 0), (126, .iconst 2, 127, 0, 0, 0, 2), (127, .iadd, 128, 0, 0, 0, 0), (128, .iaload, 129, 0, 0, 0, 0), (129, .invokestatic 45, 132, 151, 3, 8, 0), (132, .istore 5, 134, 0, 0, 0, 0), (134, .aload_n 2, 135, 0, 0, 0, 0), (135, .aload_n 0, 136, 0, 0, 0, 0), (136, .iload 4, 138, 0, 0, 0, 0), (138, .iconst 1, 139, 0, 0, 0, 1), (139, .iadd, 140, 0, 0, 0, 0), (140, .iaload, 141, 0, 0, 0, 0), (141, .aload_n 0, 142, 0, 0, 0, 0), (142, .iload 4, 144, 0, 0, 0, 0), (144, .iconst 2, 145, 0, 0, 0, 2), (145, .iadd, 146, 0, 0, 0, 0), (146, .iaload, 147, 0, 0, 0, 0), (147, .invokevirtual 50, 150, 135, 3, 0, 0), (150, .aload_n 2, 151, 0, 0, 0, 0), (151, .invokevirtual 51, 154, 100, 1, 0, 0), (154, .iload 5, 156, 0, 0, 0, 0), (156, .if_icmp .eq 5, 159, 161, 0, 0, 0), (159, .iconst 0, 160, 0, 0, 0, 0), (160, .ireturn, 161, 0, 0, 2, 0), (161, .goto 723, 164, 884, 0, 0, 0), (164, .aload_n 1, 165, 0, 0, 0, 0), (165, .aload_n 0, 166, 0, 0, 0, 0), (166, .iload 4, 168, 0, 0, 0, 0), (168, .iconst 1, 169, 0, 0, 0, 1), (169, .iadd, 170, 0, 0, 0, 0), (170, .iaload, 171, 0, 0, 0, 0), (171, .aload_n 0, 172, 0, 0, 0, 0), (172, .iload 4, 174, 0, 0, 0, 0), (174, .iconst 2, 175, 0, 0, 0, 2), (175, .iadd, 176, 0, 0, 0, 0), (176, .iaload, 177, 0, 0, 0, 0), (177, .aload_n 0, 178, 0, 0, 0, 0), (178, .iload 4, 180, 0, 0, 0, 0), (180, .iconst 3, 181, 0, 0, 0, 3), (181, .iadd, 182, 0, 0, 0, 0), (182, .iaload, 183, 0, 0, 0, 0), (183, .aload_n 0, 184, 0, 0, 0, 0), (184, .iload 4, 186, 0, 0, 0, 0), (186, .iconst 4, 187, 0, 0, 0, 4), (187, .iadd, 188, 0, 0, 0, 0), (188, .iaload, 189, 0, 0, 0, 0), (189, .aload_n 0, 190, 0, 0, 0, 0), (190, .iload 4, 192, 0, 0, 0, 0), (192, .iconst 5, 193, 0, 0, 0, 5), (193, .iadd, 194, 0, 0, 0, 0), (194, .iaload, 195, 0, 0, 0, 0), (195, .aload_n 3, 196, 0, 0, 0, 0), (196, .invokestatic 55, 199, 152, 7, 8, 0), (199, .istore 5, 201, 0, 0, 0, 0), (201, .aload_n 2, 202, 0, 0, 0, 0), (202, .aload_n 0, 203, 0, 0, 0, 0), (203, .iload 4, 205, 0, 0, 0, 0), (205, .iconst 1, 206, 0, 0, 0, 1), (206, .iadd, 207, 0, 0, 0, 0), (207, .iaload, 208, 0, 0, 0, 0), (208, .aload_n 0, 209, 0, 0, 0, 0), (209, .iload 4, 211, 0, 0, 0, 0), (211, .iconst 2, 212, 0, 0, 0, 2), (212, .iadd, 213, 0, 0, 0, 0), (213, .iaload, 214, 0, 0, 0, 0), (214, .aload_n 0, 215, 0, 0, 0, 0), (215, .iload 4, 217, 0, 0, 0, 0), (217, .iconst 3, 218, 0, 0, 0, 3), (218, .iadd, 219, 0, 0, 0, 0), (219, .iaload, 220, 0, 0, 0, 0), (220, .aload_n 0, 221, 0, 0, 0, 0), (221, .iload 4, 223, 0, 0, 0, 0), (223, .iconst 4, 224, 0, 0, 0, 4), (224, .iadd, 225, 0, 0, 0, 0), (225, .iaload, 226, 0, 0, 0, 0), (226, .aload_n 0, 227, 0, 0, 0, 0), (227, .iload 4, 229, 0, 0, 0, 0), (229, .iconst 5, 230, 0, 0, 0, 5), (230, .iadd, 231, 0, 0, 0, 0), (231, .iaload, 232, 0, 0, 0, 0), (232, .invokevirtual 58, 235, 136, 6, 0, 0), (235, .istore 6, 237, 0, 0, 0, 0), (237, .aload_n 2, 238, 0, 0, 0, 0), (238, .invokevirtual 51, 241, 100, 1, 0, 0), (241, .iload 5, 243, 0, 0, 0, 0), (243, .if_icmp .eq 5, 246, 248, 0, 0, 0), (246, .iconst 0, 247, 0, 0, 0, 0), (247, .ireturn, 248, 0, 0, 2, 0), (248, .iload 5, 250, 0, 0, 0, 0), (250, .ifCond .ne 15, 253, 265, 0, 0, 0), (253, .aload_n 3, 254, 0, 0, 0, 0), (254, .iconst 0, 255, 0, 0, 0, 0), (255, .laload, 256, 0, 0, 0, 0), (256, .iload 6, 258, 0, 0, 0, 0), (258, .i2l, 259, 0, 0, 0, 0), (259, .lcmp, 260, 0, 0, 0, 0), (260, .ifCond .eq 5, 263, 265, 0, 0, 0), (263, .iconst 0, 264, 0, 0, 0, 0), (264, .ireturn, 265, 0, 0, 2, 0), (265, .goto 619, 268, 884, 0, 0, 0), (268, .aload_n 1, 269, 0, 0, 0, 0), (269, .aload_n 0, 270, 0, 0, 0, 0), (270, .iload 4, 272, 0, 0, 0, 0), (272, .iconst 1, 273, 0, 0, 0, 1), (273, .iadd, 274, 0, 0, 0, 0), (274, .iaload, 275, 0, 0, 0, 0), (275, .ifCond .eq 7, 278, 282, 0, 0, 0), (278, .iconst 1, 279, 0, 0, 0, 1), (279, .goto 4, 282, 283, 0, 0, 0), (282, .iconst 0, 283, 0, 0, 0, 0), (283, .aload_n 0, 284, 0, 0, 0, 0), (284, .iload 4, 286, 0, 0, 0, 0), (286, .iconst 2, 287, 0, 0, 0, 2), (287, .iadd, 288, 0, 0, 0, 0), (288, .iaload, 289, 0, 0, 0, 0), (289, .aload_n 0, 290, 0, 0, 0, 0), (290, .iload 4, 292, 0, 0, 0, 0), (292, .iconst 3, 293, 0, 0, 0, 3), (293, .iadd, 294, 0, 0, 0, 0), (294, .iaload, 295, 0, 0, 0, 0), (295, .aload_n 0, 296, 0, 0, 0, 0), (296, .iload 4, 298, 0, 0, 0, 0), (298, .iconst 4, 299, 0, 0, 0, 4), (299, .iadd, 300, 0, 0, 0, 0), (300, .iaload, 301, 0, 0, 0, 0), (301, .aload_n 3, 302, 0, 0, 0, 0), (302, .invokestatic 59, 305, 153, 6, 8, 0), (305, .istore 5, 307, 0, 0, 0, 0), (307, .aload_n 2, 308, 0, 0, 0, 0), (308, .aload_n 0, 309, 0, 0, 0, 0), (309, .iload 4, 311, 0, 0, 0, 0), (311, .iconst 1, 312, 0, 0, 0, 1), (312, .iadd, 313, 0, 0, 0, 0), (313, .iaload, 314, 0, 0, 0, 0), (314, .ifCond .eq 7, 317, 321, 0, 0, 0), (317, .iconst 1, 318, 0, 0, 0, 1), (318, .goto 4, 321, 322, 0, 0, 0), (321, .iconst 0, 322, 0, 0, 0, 0), (322, .aload_n 0, 323, 0, 0, 0, 0), (323, .iload 4, 325, 0, 0, 0, 0), (325, .iconst 2, 326, 0, 0, 0, 2), (326, .iadd, 327, 0, 0, 0, 0), (327, .iaload, 328, 0, 0, 0, 0), (328, .aload_n 0, 329, 0, 0, 0, 0), (329, .iload 4, 331, 0, 0, 0, 0), (331, .iconst 3, 332, 0, 0, 0, 3), (332, .iadd, 333, 0, 0, 0, 0), (333, .iaload, 334, 0, 0, 0, 0), (334, .aload_n 0, 335, 0, 0, 0, 0), (335, .iload 4, 337, 0, 0, 0, 0), (337, .iconst 4, 338, 0, 0, 0, 4), (338, .iadd, 339, 0, 0, 0, 0), (339, .iaload, 340, 0, 0, 0, 0), (340, .invokevirtual 62, 343, 137, 5, 0, 0), (343, .istore 6, 345, 0, 0, 0, 0), (345, .aload_n 2, 346, 0, 0, 0, 0), (346, .invokevirtual 51, 349, 100, 1, 0, 0), (349, .iload 5, 351, 0, 0, 0, 0), (351, .if_icmp .eq 5, 354, 356, 0, 0, 0), (354, .iconst 0, 355, 0, 0, 0, 0), (355, .ireturn, 356, 0, 0, 2, 0), (356, .iload 5, 358, 0, 0, 0, 0), (358, .ifCond .ne 15, 361, 373, 0, 0, 0), (361, .aload_n 3, 362, 0, 0, 0, 0), (362, .iconst 0, 363, 0, 0, 0, 0), (363, .laload, 364, 0, 0, 0, 0), (364, .iload 6, 366, 0, 0, 0, 0), (366, .i2l, 367, 0, 0, 0, 0), (367, .lcmp, 368, 0, 0, 0, 0), (368, .ifCond .eq 5, 371, 373, 0, 0, 0), (371, .iconst 0, 372, 0, 0, 0, 0), (372, .ireturn, 373, 0, 0, 2, 0), (373, .goto 511, 376, 884, 0, 0, 0), (376, .aload_n 1, 377, 0, 0, 0, 0), (377, .aload_n 0, 378, 0, 0, 0, 0), (378, .iload 4, 380, 0, 0, 0, 0), (380, .iconst 1, 381, 0, 0, 0, 1), (381, .iadd, 382, 0, 0, 0, 0), (382, .iaload, 383, 0, 0, 0, 0), (383, .aload_n 0, 384, 0, 0, 0, 0), (384, .iload 4, 386, 0, 0, 0, 0), (386, .iconst 2, 387, 0, 0, 0, 2), (387, .iadd, 388, 0, 0, 0, 0), (388, .iaload, 389, 0, 0, 0, 0), (389, .aload_n 0, 390, 0, 0, 0, 0), (390, .iload 4, 392, 0, 0, 0, 0), (392, .iconst 3, 393, 0, 0, 0, 3), (393, .iadd, 394, 0, 0, 0, 0), (394, .iaload, 395, 0, 0, 0, 0), (395, .invokestatic 63, 398, 154, 4, 8, 0), (398, .istore 5, 400, 0, 0, 0, 0), (400, .aload_n 2, 401, 0, 0, 0, 0), (401, .aload_n 0, 402, 0, 0, 0, 0), (402, .iload 4, 404, 0, 0, 0, 0), (404, .iconst 1, 405, 0, 0, 0, 1), (405, .iadd, 406, 0, 0, 0, 0), (406, .iaload, 407, 0, 0, 0, 0), (407, .aload_n 0, 408, 0, 0, 0, 0), (408, .iload 4, 410, 0, 0, 0, 0), (410, .iconst 2, 411, 0, 0, 0, 2), (411, .iadd, 412, 0, 0, 0, 0), (412, .iaload, 413, 0, 0, 0, 0), (413, .aload_n 0, 414, 0, 0, 0, 0), (414, .iload 4, 416, 0, 0, 0, 0), (416, .iconst 3, 417, 0, 0, 0, 3), (417, .iadd, 418, 0, 0, 0, 0), (418, .iaload, 419, 0, 0, 0, 0), (419, .invokevirtual 66, 422, 138, 4, 0, 0), (422, .aload_n 2, 423, 0, 0, 0, 0), (423, .invokevirtual 51, 426, 100, 1, 0, 0), (426, .iload 5, 428, 0, 0, 0, 0), (428, .if_icmp .eq 5, 431, 433, 0, 0, 0), (431, .iconst 0, 432, 0, 0, 0, 0), (432, .ireturn, 433, 0, 0, 2, 0), (433, .goto 451, 436, 884, 0, 0, 0), (436, .aload_n 1, 437, 0, 0, 0, 0), (437, .aload_n 0, 438, 0, 0, 0, 0), (438, .iload 4, 440, 0, 0, 0, 0), (440, .iconst 1, 441, 0, 0, 0, 1), (441, .iadd, 442, 0, 0, 0, 0), (442, .iaload, 443, 0, 0, 0, 0), (443, .aload_n 0, 444, 0, 0, 0, 0), (444, .iload 4, 446, 0, 0, 0, 0), (446, .iconst 2, 447, 0, 0, 0, 2), (447, .iadd, 448, 0, 0, 0, 0), (448, .iaload, 449, 0, 0, 0, 0), (449, .aload_n 0, 450, 0, 0, 0, 0), (450, .iload 4, 452, 0, 0, 0, 0), (452, .iconst 3, 453, 0, 0, 0, 3), (453, .iadd, 454, 0, 0, 0, 0), (454, .iaload, 455, 0, 0, 0, 0), (455, .invokestatic 67, 458, 155, 4, 8, 0), (458, .istore 5, 460, 0, 0, 0, 0), (460, .aload_n 2, 461, 0, 0, 0, 0), (461, .aload_n 0, 462, 0, 0, 0, 0), (462, .iload 4, 464, 0, 0, 0, 0), (464, .iconst 1, 465, 0, 0, 0, 1), (465, .iadd, 466, 0, 0, 0, 0), (466, .iaload, 467, 0, 0, 0, 0), (467, .aload_n 0, 468, 0, 0, 0, 0), (468, .iload 4, 470, 0, 0, 0, 0), (470, .iconst 2, 471, 0, 0, 0, 2), (471, .iadd, 472, 0, 0, 0, 0), (472, .iaload, 473, 0, 0, 0, 0), (473, .aload_n 0, 474, 0, 0, 0, 0), (474, .iload 4, 476, 0, 0, 0, 0), (476, .iconst 3, 477, 0, 0, 0, 3), (477, .iadd, 478, 0, 0, 0, 0), (478, .iaload, 479, 0, 0, 0, 0), (479, .invokevirtual 69, 482, 139, 4, 0, 0), (482, .aload_n 2, 483, 0, 0, 0, 0), (483, .invokevirtual 51, 486, 100, 1, 0, 0), (486, .iload 5, 488, 0, 0, 0, 0), (488, .if_icmp .eq 5, 491, 493, 0, 0, 0), (491, .iconst 0, 492, 0, 0, 0, 0), (492, .ireturn, 493, 0, 0, 2, 0), (493, .goto 391, 496, 884, 0, 0, 0), (496, .aload_n 1, 497, 0, 0, 0, 0), (497, .invokestatic 70, 500, 156, 1, 8, 0), (500, .istore 5, 502, 0, 0, 0, 0), (502, .aload_n 2, 503, 0, 0, 0, 0), (503, .invokevirtual 73, 506, 140, 1, 0, 0), (506, .aload_n 2, 507, 0, 0, 0, 0), (507, .invokevirtual 51, 510, 100, 1, 0, 0), (510, .iload 5, 512, 0, 0, 0, 0), (512, .if_icmp .eq 5, 515, 517, 0, 0, 0), (515, .iconst 0, 516, 0, 0, 0, 0), (516, .ireturn, 517, 0, 0, 2, 0), (517, .goto 367, 520, 884, 0, 0, 0), (520, .aload_n 1, 521, 0, 0, 0, 0), (521, .aload_n 0, 522, 0, 0, 0, 0), (522, .iload 4, 524, 0, 0, 0, 0), (524, .iconst 1, 525, 0, 0, 0, 1), (525, .iadd, 526, 0, 0, 0, 0), (526, .iaload, 527, 0, 0, 0, 0), (527, .aload_n 3, 528, 0, 0, 0, 0), (528, .invokestatic 74, 531, 157, 3, 8, 0), (531, .istore 5, 533, 0, 0, 0, 0), (533, .aload_n 2, 534, 0, 0, 0, 0), (534, .aload_n 0, 535, 0, 0, 0, 0), (535, .iload 4, 537, 0, 0, 0, 0), (537, .iconst 1, 538, 0, 0, 0, 1), (538, .iadd, 539, 0, 0, 0, 0), (539, .iaload, 540, 0, 0, 0, 0), (540, .invokevirtual 77, 543, 141, 2, 0, 0), (543, .istore 6, 545, 0, 0, 0, 0), (545, .aload_n 2, 546, 0, 0, 0, 0), (546, .invokevirtual 51, 549, 100, 1, 0, 0), (549, .iload 5, 551, 0, 0, 0, 0), (551, .if_icmp .eq 5, 554, 556, 0, 0, 0), (554, .iconst 0, 555, 0, 0, 0, 0), (555, .ireturn, 556, 0, 0, 2, 0), (556, .iload 5, 558, 0, 0, 0, 0), (558, .ifCond .ne 15, 561, 573, 0, 0, 0), (561, .aload_n 3, 562, 0, 0, 0, 0), (562, .iconst 0, 563, 0, 0, 0, 0), (563, .laload, 564, 0, 0, 0, 0), (564, .iload 6, 566, 0, 0, 0, 0), (566, .i2l, 567, 0, 0, 0, 0), (567, .lcmp, 568, 0, 0, 0, 0), (568, .ifCond .eq 5, 571, 573, 0, 0, 0), (571, .iconst 0, 572, 0, 0, 0, 0), (572, .ireturn, 573, 0, 0, 2, 0), (573, .goto 311, 576, 884, 0, 0, 0), (576, .aload_n 1, 577, 0, 0, 0, 0), (577, .aload_n 0, 578, 0, 0, 0, 0), (578, .iload 4, 580, 0, 0, 0, 0), (580, .iconst 1, 581, 0, 0, 0, 1), (581, .iadd, 582, 0, 0, 0, 0), (582, .iaload, 583, 0, 0, 0, 0), (583, .aload_n 0, 584, 0, 0, 0, 0), (584, .iload 4, 586, 0, 0, 0, 0), (586, .iconst 2, 587, 0, 0, 0, 2), (587, .iadd, 588, 0, 0, 0, 0), (588, .iaload, 589, 0, 0, 0, 0), (589, .invokevirtual 78, 592, 78, 3, 0, 0), (592, .aload_n 2, 593, 0, 0, 0, 0), (593, .aload_n 0, 594, 0, 0, 0, 0), (594, .iload 4, 596, 0, 0, 0, 0), (596, .iconst 1, 597, 0, 0, 0, 1), (597, .iadd, 598, 0, 0, 0, 0), (598, .iaload, 599, 0, 0, 0, 0), (599, .aload_n 0, 600, 0, 0, 0, 0), (600, .iload 4, 602, 0, 0, 0, 0), (602, .iconst 2, 603, 0, 0, 0, 2), (603, .iadd, 604, 0, 0, 0, 0), (604, .iaload, 605, 0, 0, 0, 0), (605, .invokevirtual 82, 608, 142, 3, 0, 0), (608, .if_icmp .eq 276, 611, 884, 0, 0, 0), (611, .iconst 0, 612, 0, 0, 0, 0), (612, .ireturn, 613, 0, 0, 2, 0), (613, .aload_n 1, 614, 0, 0, 0, 0), (614, .aload_n 0, 615, 0, 0, 0, 0), (615, .iload 4, 617, 0, 0, 0, 0), (617, .iconst 1, 618, 0, 0, 0, 1), (618, .iadd, 619, 0, 0, 0, 0), (619, .iaload, 620, 0, 0, 0, 0), (620, .aload_n 0, 621, 0, 0, 0, 0), (621, .iload 4, 623, 0, 0, 0, 0), (623, .iconst 2, 624, 0, 0, 0, 2), (624, .iadd, 625, 0, 0, 0, 0), (625, .iaload, 626, 0, 0, 0, 0), (626, .aload_n 0, 627, 0, 0, 0, 0), (627, .iload 4, 629, 0, 0, 0, 0), (629, .iconst 3, 630, 0, 0, 0, 3), (630, .iadd, 631, 0, 0, 0, 0), (631, .iaload, 632, 0, 0, 0, 0), (632, .invokevirtual 83, 635, 79, 4, 0, 0), (635, .aload_n 2, 636, 0, 0, 0, 0), (636, .aload_n 0, 637, 0, 0, 0, 0), (637, .iload 4, 639, 0, 0, 0, 0), (639, .iconst 1, 640, 0, 0, 0, 1), (640, .iadd, 641, 0, 0, 0, 0), (641, .iaload, 642, 0, 0, 0, 0), (642, .aload_n 0, 643, 0, 0, 0, 0), (643, .iload 4, 645, 0, 0, 0, 0), (645, .iconst 2, 646, 0, 0, 0, 2), (646, .iadd, 647, 0, 0, 0, 0), (647, .iaload, 648, 0, 0, 0, 0), (648, .aload_n 0, 649, 0, 0, 0, 0), (649, .iload 4, 651, 0, 0, 0, 0), (651, .iconst 3, 652, 0, 0, 0, 3), (652, .iadd, 653, 0, 0, 0, 0), (653, .iaload, 654, 0, 0, 0, 0), (654, .invokevirtual 87, 657, 144, 4, 0, 0), (657, .if_icmp .eq 227, 660, 884, 0, 0, 0), (660, .iconst 0, 661, 0, 0, 0, 0), (661, .ireturn, 662, 0, 0, 2, 0), (662, .aload_n 1, 663, 0, 0, 0, 0), (663, .aload_n 0, 664, 0, 0, 0, 0), (664, .iload 4, 666, 0, 0, 0, 0), (666, .iconst 1, 667, 0, 0, 0, 1), (667, .iadd, 668, 0, 0, 0, 0), (668, .iaload, 669, 0, 0, 0, 0), (669, .aload_n 0, 670, 0, 0, 0, 0), (670, .iload 4, 672, 0, 0, 0, 0), (672, .iconst 2, 673, 0, 0, 0, 2), (673, .iadd, 674, 0, 0, 0, 0), (674, .iaload, 675, 0, 0, 0, 0), (675, .aload_n 0, 676, 0, 0, 0, 0), (676, .iload 4, 678, 0, 0, 0, 0), (678, .iconst 3, 679, 0, 0, 0, 3), (679, .iadd, 680, 0, 0, 0, 0), (680, .iaload, 681, 0, 0, 0, 0), (681, .invokevirtual 88, 684, 80, 4, 0, 0), (684, .aload_n 2, 685, 0, 0, 0, 0), (685, .aload_n 0, 686, 0, 0, 0, 0), (686, .iload 4, 688, 0, 0, 0, 0), (688, .iconst 1, 689, 0, 0, 0, 1), (689, .iadd, 690, 0, 0, 0, 0), (690, .iaload, 691, 0, 0, 0, 0), (691, .aload_n 0, 692, 0, 0, 0, 0), (692, .iload 4, 694, 0, 0, 0, 0), (694, .iconst 2, 695, 0, 0, 0, 2), (695, .iadd, 696, 0, 0, 0, 0), (696, .iaload, 697, 0, 0, 0, 0), (697, .aload_n 0, 698, 0, 0, 0, 0), (698, .iload 4, 700, 0, 0, 0, 0), (700, .iconst 3, 701, 0, 0, 0, 3), (701, .iadd, 702, 0, 0, 0, 0), (702, .iaload, 703, 0, 0, 0, 0), (703, .invokevirtual 91, 706, 145, 4, 0, 0), (706, .if_icmp .eq 178, 709, 884, 0, 0, 0), (709, .iconst 0, 710, 0, 0, 0, 0), (710, .ireturn, 711, 0, 0, 2, 0), (711, .aload_n 1, 712, 0, 0, 0, 0), (712, .aload_n 0, 713, 0, 0, 0, 0), (713, .iload 4, 715, 0, 0, 0, 0), (715, .iconst 1, 716, 0, 0, 0, 1), (716, .iadd, 717, 0, 0, 0, 0), (717, .iaload, 718, 0, 0, 0, 0), (718, .aload_n 0, 719, 0, 0, 0, 0), (719, .iload 4, 721, 0, 0, 0, 0), (721, .iconst 2, 722, 0, 0, 0, 2), (722, .iadd, 723, 0, 0, 0, 0), (723, .iaload, 724, 0, 0, 0, 0), (724, .invokevirtual 92, 727, 81, 3, 0, 0), (727, .aload_n 2, 728, 0, 0, 0, 0), (728, .aload_n 0, 729, 0, 0, 0, 0), (729, .iload 4, 731, 0, 0, 0, 0), (731, .iconst 1, 732, 0, 0, 0, 1), (732, .iadd, 733, 0, 0, 0, 0), (733, .iaload, 734, 0, 0, 0, 0), (734, .aload_n 0, 735, 0, 0, 0, 0), (735, .iload 4, 737, 0, 0, 0, 0), (737, .iconst 2, 738, 0, 0, 0, 2), (738, .iadd, 739, 0, 0, 0, 0), (739, .iaload, 740, 0, 0, 0, 0), (740, .invokevirtual 95, 743, 146, 3, 0, 0), (743, .if_icmp .eq 141, 746, 884, 0, 0, 0), (746, .iconst 0, 747, 0, 0, 0, 0), (747, .ireturn, 748, 0, 0, 2, 0), (748, .aload_n 1, 749, 0, 0, 0, 0), (749, .aload_n 0, 750, 0, 0, 0, 0), (750, .iload 4, 752, 0, 0, 0, 0), (752, .iconst 1, 753, 0, 0, 0, 1), (753, .iadd, 754, 0, 0, 0, 0), (754, .iaload, 755, 0, 0, 0, 0), (755, .aload_n 0, 756, 0, 0, 0, 0), (756, .iload 4, 758, 0, 0, 0, 0), (758, .iconst 2, 759, 0, 0, 0, 2), (759, .iadd, 760, 0, 0, 0, 0), (760, .iaload, 761, 0, 0, 0, 0), (761, .invokevirtual 96, 764, 82, 3, 0, 0), (764, .aload_n 2, 765, 0, 0, 0, 0), (765, .aload_n 0, 766, 0, 0, 0, 0), (766, .iload 4, 768, 0, 0, 0, 0), (768, .iconst 1, 769, 0, 0, 0, 1), (769, .iadd, 770, 0, 0, 0, 0), (770, .iaload, 771, 0, 0, 0, 0), (771, .aload_n 0, 772, 0, 0, 0, 0), (772, .iload 4, 774, 0, 0, 0, 0), (774, .iconst 2, 775, 0, 0, 0, 2), (775, .iadd, 776, 0, 0, 0, 0), (776, .iaload, 777, 0, 0, 0, 0), (777, .invokevirtual 99, 780, 147, 3, 0, 0), (780, .if_icmp .eq 104, 783, 884, 0, 0, 0), (783, .iconst 0, 784, 0, 0, 0, 0), (784, .ireturn, 785, 0, 0, 2, 0), (785, .aload_n 1, 786, 0, 0, 0, 0), (786, .aload_n 0, 787, 0, 0, 0, 0), (787, .iload 4, 789, 0, 0, 0, 0), (789, .iconst 1, 790, 0, 0, 0, 1), (790, .iadd, 791, 0, 0, 0, 0), (791, .iaload, 792, 0, 0, 0, 0), (792, .aload_n 0, 793, 0, 0, 0, 0), (793, .iload 4, 795, 0, 0, 0, 0), (795, .iconst 2, 796, 0, 0, 0, 2), (796, .iadd, 797, 0, 0, 0, 0), (797, .iaload, 798, 0, 0, 0, 0), (798, .invokevirtual 100, 801, 83, 3, 0, 0), (801, .aload_n 2, 802, 0, 0, 0, 0), (802, .aload_n 0, 803, 0, 0, 0, 0), (803, .iload 4, 805, 0, 0, 0, 0), (805, .iconst 1, 806, 0, 0, 0, 1), (806, .iadd, 807, 0, 0, 0, 0), (807, .iaload, 808, 0, 0, 0, 0), (808, .aload_n 0, 809, 0, 0, 0, 0), (809, .iload 4, 811, 0, 0, 0, 0), (811, .iconst 2, 812, 0, 0, 0, 2), (812, .iadd, 813, 0, 0, 0, 0), (813, .iaload, 814, 0, 0, 0, 0), (814, .invokevirtual 103, 817, 148, 3, 0, 0), (817, .if_icmp .eq 67, 820, 884, 0, 0, 0), (820, .iconst 0, 821, 0, 0, 0, 0), (821, .ireturn, 822, 0, 0, 2, 0), (822, .aload_n 1, 823, 0, 0, 0, 0), (823, .aload_n 0, 824, 0, 0, 0, 0), (824, .iload 4, 826, 0, 0, 0, 0), (826, .iconst 1, 827, 0, 0, 0, 1), (827, .iadd, 828, 0, 0, 0, 0), (828, .iaload, 829, 0, 0, 0, 0), (829, .aload_n 0, 830, 0, 0, 0, 0), (830, .iload 4, 832, 0, 0, 0, 0), (832, .iconst 2, 833, 0, 0, 0, 2), (833, .iadd, 834, 0, 0, 0, 0), (834, .iaload, 835, 0, 0, 0, 0), (835, .invokevirtual 104, 838, 84, 3, 0, 0), (838, .aload_n 2, 839, 0, 0, 0, 0), (839, .aload_n 0, 840, 0, 0, 0, 0), (840, .iload 4, 842, 0, 0, 0, 0), (842, .iconst 1, 843, 0, 0, 0, 1), (843, .iadd, 844, 0, 0, 0, 0), (844, .iaload, 845, 0, 0, 0, 0), (845, .aload_n 0, 846, 0, 0, 0, 0), (846, .iload 4, 848, 0, 0, 0, 0), (848, .iconst 2, 849, 0, 0, 0, 2), (849, .iadd, 850, 0, 0, 0, 0), (850, .iaload, 851, 0, 0, 0, 0), (851, .invokevirtual 107, 854, 149, 3, 0, 0), (854, .if_icmp .eq 30, 857, 884, 0, 0, 0), (857, .iconst 0, 858, 0, 0, 0, 0), (858, .ireturn, 859, 0, 0, 2, 0), (859, .aload_n 1, 860, 0, 0, 0, 0), (860, .aload_n 0, 861, 0, 0, 0, 0), (861, .iload 4, 863, 0, 0, 0, 0), (863, .iconst 1, 864, 0, 0, 0, 1), (864, .iadd, 865, 0, 0, 0, 0), (865, .iaload, 866, 0, 0, 0, 0), (866, .invokevirtual 108, 869, 85, 2, 0, 0), (869, .aload_n 2, 870, 0, 0, 0, 0), (870, .aload_n 0, 871, 0, 0, 0, 0), (871, .iload 4, 873, 0, 0, 0, 0), (873, .iconst 1, 874, 0, 0, 0, 1), (874, .iadd, 875, 0, 0, 0, 0), (875, .iaload, 876, 0, 0, 0, 0), (876, .invokevirtual 111, 879, 150, 2, 0, 0), (879, .if_icmp .eq 5, 882, 884, 0, 0, 0), (882, .iconst 0, 883, 0, 0, 0, 0), (883, .ireturn, 884, 0, 0, 2, 0), (884, .iinc 4 6, 887, 0, 0, 0, 6), (887, .goto (-864), 890, 23, 0, 0, 0), (890, .iconst 1, 891, 0, 0, 0, 1), (891, .ireturn, 892, 0, 0, 2, 0)]
def pl_cd0 : List mEn := [(0, .new 8, 3, 6, 0, 0, 0), (3, .dup, 4, 0, 0, 0, 0), (4, .invokespecial 41, 7, 71, 1, 0, 0), (7, .astore_n 1, 8, 0, 0, 0, 0), (8, .new 42, 11, 7, 0, 0, 0), (11, .dup, 12, 0, 0, 0, 0), (12, .invokespecial 44, 15, 100, 1, 0, 0), (15, .astore_n 2, 16, 0, 0, 0, 0), (16, .iconst 1, 17, 0, 0, 0, 1), (17, .newarray .long, 19, 40, 0, 0, 0), (19, .astore_n 3, 20, 0, 0, 0, 0), (20, .iconst 0, 21, 0, 0, 0, 0), (21, .istore 4, 23, 0, 0, 0, 0), (23, .iload 4, 25, 0, 0, 0, 0), (25, .aload_n 0, 26, 0, 0, 0, 0), (26, .arraylength, 27, 0, 0, 0, 0), (27, .bipush 6, 29, 0, 0, 0, 6), (29, .isub, 30, 0, 0, 0, 0), (30, .if_icmp .gt 860, 33, 890, 0, 0, 0), (33, .aload_n 0, 34, 0, 0, 0, 0), (34, .iload 4, 36, 0, 0, 0, 0), (36, .iaload, 37, 0, 0, 0, 0), (37, .bipush 15, 39, 0, 0, 0, 15), (39, .iand, 40, 0, 0, 0, 0), (40, .tableswitch 844 0 14 #[76, 124, 228, 336, 396, 456, 480, 536, 573, 622, 671, 708, 745, 782, 819], 116, 884, 16, 0, 0), (116, .aload_n 1, 117, 0, 0, 0, 0), (117, .aload_n 0, 118, 0, 0, 0, 0), (118, .iload 4, 120, 0, 0, 0, 0), (120, .iconst 1, 121, 0, 0, 0, 1), (121, .iadd, 122, 0, 0, 0, 0), (122, .iaload, 123, 0, 0, 0, 0), (123, .aload_n 0, 124, 0, 0, 0, 0), (124, .iload 4, 126, 0, 0, 0, 0), (126, .iconst 2, 127, 0, 0, 0, 2), (127, .iadd, 128, 0, 0, 0, 0), (128, .iaload, 129, 0, 0, 0, 0), (129, .invokestatic 45, 132, 151, 3, 8, 0), (132, .istore 5, 134, 0, 0, 0, 0), (134, .aload_n 2, 135, 0, 0, 0, 0), (135, .aload_n 0, 136, 0, 0, 0, 0)]
def pl_cd1 : List mEn := [(136, .iload 4, 138, 0, 0, 0, 0), (138, .iconst 1, 139, 0, 0, 0, 1), (139, .iadd, 140, 0, 0, 0, 0), (140, .iaload, 141, 0, 0, 0, 0), (141, .aload_n 0, 142, 0, 0, 0, 0), (142, .iload 4, 144, 0, 0, 0, 0), (144, .iconst 2, 145, 0, 0, 0, 2), (145, .iadd, 146, 0, 0, 0, 0), (146, .iaload, 147, 0, 0, 0, 0), (147, .invokevirtual 50, 150, 135, 3, 0, 0), (150, .aload_n 2, 151, 0, 0, 0, 0), (151, .invokevirtual 51, 154, 100, 1, 0, 0), (154, .iload 5, 156, 0, 0, 0, 0), (156, .if_icmp .eq 5, 159, 161, 0, 0, 0), (159, .iconst 0, 160, 0, 0, 0, 0), (160, .ireturn, 161, 0, 0, 2, 0), (161, .goto 723, 164, 884, 0, 0, 0), (164, .aload_n 1, 165, 0, 0, 0, 0), (165, .aload_n 0, 166, 0, 0, 0, 0), (166, .iload 4, 168, 0, 0, 0, 0), (168, .iconst 1, 169, 0, 0, 0, 1), (169, .iadd, 170, 0, 0, 0, 0), (170, .iaload, 171, 0, 0, 0, 0), (171, .aload_n 0, 172, 0, 0, 0, 0), (172, .iload 4, 174, 0, 0, 0, 0), (174, .iconst 2, 175, 0, 0, 0, 2), (175, .iadd, 176, 0, 0, 0, 0), (176, .iaload, 177, 0, 0, 0, 0), (177, .aload_n 0, 178, 0, 0, 0, 0), (178, .iload 4, 180, 0, 0, 0, 0), (180, .iconst 3, 181, 0, 0, 0, 3), (181, .iadd, 182, 0, 0, 0, 0), (182, .iaload, 183, 0, 0, 0, 0), (183, .aload_n 0, 184, 0, 0, 0, 0), (184, .iload 4, 186, 0, 0, 0, 0), (186, .iconst 4, 187, 0, 0, 0, 4), (187, .iadd, 188, 0, 0, 0, 0), (188, .iaload, 189, 0, 0, 0, 0), (189, .aload_n 0, 190, 0, 0, 0, 0), (190, .iload 4, 192, 0, 0, 0, 0)]
def pl_cd2 : List mEn := [(192, .iconst 5, 193, 0, 0, 0, 5), (193, .iadd, 194, 0, 0, 0, 0), (194, .iaload, 195, 0, 0, 0, 0), (195, .aload_n 3, 196, 0, 0, 0, 0), (196, .invokestatic 55, 199, 152, 7, 8, 0), (199, .istore 5, 201, 0, 0, 0, 0), (201, .aload_n 2, 202, 0, 0, 0, 0), (202, .aload_n 0, 203, 0, 0, 0, 0), (203, .iload 4, 205, 0, 0, 0, 0), (205, .iconst 1, 206, 0, 0, 0, 1), (206, .iadd, 207, 0, 0, 0, 0), (207, .iaload, 208, 0, 0, 0, 0), (208, .aload_n 0, 209, 0, 0, 0, 0), (209, .iload 4, 211, 0, 0, 0, 0), (211, .iconst 2, 212, 0, 0, 0, 2), (212, .iadd, 213, 0, 0, 0, 0), (213, .iaload, 214, 0, 0, 0, 0), (214, .aload_n 0, 215, 0, 0, 0, 0), (215, .iload 4, 217, 0, 0, 0, 0), (217, .iconst 3, 218, 0, 0, 0, 3), (218, .iadd, 219, 0, 0, 0, 0), (219, .iaload, 220, 0, 0, 0, 0), (220, .aload_n 0, 221, 0, 0, 0, 0), (221, .iload 4, 223, 0, 0, 0, 0), (223, .iconst 4, 224, 0, 0, 0, 4), (224, .iadd, 225, 0, 0, 0, 0), (225, .iaload, 226, 0, 0, 0, 0), (226, .aload_n 0, 227, 0, 0, 0, 0), (227, .iload 4, 229, 0, 0, 0, 0), (229, .iconst 5, 230, 0, 0, 0, 5), (230, .iadd, 231, 0, 0, 0, 0), (231, .iaload, 232, 0, 0, 0, 0), (232, .invokevirtual 58, 235, 136, 6, 0, 0), (235, .istore 6, 237, 0, 0, 0, 0), (237, .aload_n 2, 238, 0, 0, 0, 0), (238, .invokevirtual 51, 241, 100, 1, 0, 0), (241, .iload 5, 243, 0, 0, 0, 0), (243, .if_icmp .eq 5, 246, 248, 0, 0, 0), (246, .iconst 0, 247, 0, 0, 0, 0), (247, .ireturn, 248, 0, 0, 2, 0)]
def pl_cd3 : List mEn := [(248, .iload 5, 250, 0, 0, 0, 0), (250, .ifCond .ne 15, 253, 265, 0, 0, 0), (253, .aload_n 3, 254, 0, 0, 0, 0), (254, .iconst 0, 255, 0, 0, 0, 0), (255, .laload, 256, 0, 0, 0, 0), (256, .iload 6, 258, 0, 0, 0, 0), (258, .i2l, 259, 0, 0, 0, 0), (259, .lcmp, 260, 0, 0, 0, 0), (260, .ifCond .eq 5, 263, 265, 0, 0, 0), (263, .iconst 0, 264, 0, 0, 0, 0), (264, .ireturn, 265, 0, 0, 2, 0), (265, .goto 619, 268, 884, 0, 0, 0), (268, .aload_n 1, 269, 0, 0, 0, 0), (269, .aload_n 0, 270, 0, 0, 0, 0), (270, .iload 4, 272, 0, 0, 0, 0), (272, .iconst 1, 273, 0, 0, 0, 1), (273, .iadd, 274, 0, 0, 0, 0), (274, .iaload, 275, 0, 0, 0, 0), (275, .ifCond .eq 7, 278, 282, 0, 0, 0), (278, .iconst 1, 279, 0, 0, 0, 1), (279, .goto 4, 282, 283, 0, 0, 0), (282, .iconst 0, 283, 0, 0, 0, 0), (283, .aload_n 0, 284, 0, 0, 0, 0), (284, .iload 4, 286, 0, 0, 0, 0), (286, .iconst 2, 287, 0, 0, 0, 2), (287, .iadd, 288, 0, 0, 0, 0), (288, .iaload, 289, 0, 0, 0, 0), (289, .aload_n 0, 290, 0, 0, 0, 0), (290, .iload 4, 292, 0, 0, 0, 0), (292, .iconst 3, 293, 0, 0, 0, 3), (293, .iadd, 294, 0, 0, 0, 0), (294, .iaload, 295, 0, 0, 0, 0), (295, .aload_n 0, 296, 0, 0, 0, 0), (296, .iload 4, 298, 0, 0, 0, 0), (298, .iconst 4, 299, 0, 0, 0, 4), (299, .iadd, 300, 0, 0, 0, 0), (300, .iaload, 301, 0, 0, 0, 0), (301, .aload_n 3, 302, 0, 0, 0, 0), (302, .invokestatic 59, 305, 153, 6, 8, 0), (305, .istore 5, 307, 0, 0, 0, 0)]
def pl_cd4 : List mEn := [(307, .aload_n 2, 308, 0, 0, 0, 0), (308, .aload_n 0, 309, 0, 0, 0, 0), (309, .iload 4, 311, 0, 0, 0, 0), (311, .iconst 1, 312, 0, 0, 0, 1), (312, .iadd, 313, 0, 0, 0, 0), (313, .iaload, 314, 0, 0, 0, 0), (314, .ifCond .eq 7, 317, 321, 0, 0, 0), (317, .iconst 1, 318, 0, 0, 0, 1), (318, .goto 4, 321, 322, 0, 0, 0), (321, .iconst 0, 322, 0, 0, 0, 0), (322, .aload_n 0, 323, 0, 0, 0, 0), (323, .iload 4, 325, 0, 0, 0, 0), (325, .iconst 2, 326, 0, 0, 0, 2), (326, .iadd, 327, 0, 0, 0, 0), (327, .iaload, 328, 0, 0, 0, 0), (328, .aload_n 0, 329, 0, 0, 0, 0), (329, .iload 4, 331, 0, 0, 0, 0), (331, .iconst 3, 332, 0, 0, 0, 3), (332, .iadd, 333, 0, 0, 0, 0), (333, .iaload, 334, 0, 0, 0, 0), (334, .aload_n 0, 335, 0, 0, 0, 0), (335, .iload 4, 337, 0, 0, 0, 0), (337, .iconst 4, 338, 0, 0, 0, 4), (338, .iadd, 339, 0, 0, 0, 0), (339, .iaload, 340, 0, 0, 0, 0), (340, .invokevirtual 62, 343, 137, 5, 0, 0), (343, .istore 6, 345, 0, 0, 0, 0), (345, .aload_n 2, 346, 0, 0, 0, 0), (346, .invokevirtual 51, 349, 100, 1, 0, 0), (349, .iload 5, 351, 0, 0, 0, 0), (351, .if_icmp .eq 5, 354, 356, 0, 0, 0), (354, .iconst 0, 355, 0, 0, 0, 0), (355, .ireturn, 356, 0, 0, 2, 0), (356, .iload 5, 358, 0, 0, 0, 0), (358, .ifCond .ne 15, 361, 373, 0, 0, 0), (361, .aload_n 3, 362, 0, 0, 0, 0), (362, .iconst 0, 363, 0, 0, 0, 0), (363, .laload, 364, 0, 0, 0, 0), (364, .iload 6, 366, 0, 0, 0, 0), (366, .i2l, 367, 0, 0, 0, 0)]
def pl_cd5 : List mEn := [(367, .lcmp, 368, 0, 0, 0, 0), (368, .ifCond .eq 5, 371, 373, 0, 0, 0), (371, .iconst 0, 372, 0, 0, 0, 0), (372, .ireturn, 373, 0, 0, 2, 0), (373, .goto 511, 376, 884, 0, 0, 0), (376, .aload_n 1, 377, 0, 0, 0, 0), (377, .aload_n 0, 378, 0, 0, 0, 0), (378, .iload 4, 380, 0, 0, 0, 0), (380, .iconst 1, 381, 0, 0, 0, 1), (381, .iadd, 382, 0, 0, 0, 0), (382, .iaload, 383, 0, 0, 0, 0), (383, .aload_n 0, 384, 0, 0, 0, 0), (384, .iload 4, 386, 0, 0, 0, 0), (386, .iconst 2, 387, 0, 0, 0, 2), (387, .iadd, 388, 0, 0, 0, 0), (388, .iaload, 389, 0, 0, 0, 0), (389, .aload_n 0, 390, 0, 0, 0, 0), (390, .iload 4, 392, 0, 0, 0, 0), (392, .iconst 3, 393, 0, 0, 0, 3), (393, .iadd, 394, 0, 0, 0, 0), (394, .iaload, 395, 0, 0, 0, 0), (395, .invokestatic 63, 398, 154, 4, 8, 0), (398, .istore 5, 400, 0, 0, 0, 0), (400, .aload_n 2, 401, 0, 0, 0, 0), (401, .aload_n 0, 402, 0, 0, 0, 0), (402, .iload 4, 404, 0, 0, 0, 0), (404, .iconst 1, 405, 0, 0, 0, 1), (405, .iadd, 406, 0, 0, 0, 0), (406, .iaload, 407, 0, 0, 0, 0), (407, .aload_n 0, 408, 0, 0, 0, 0), (408, .iload 4, 410, 0, 0, 0, 0), (410, .iconst 2, 411, 0, 0, 0, 2), (411, .iadd, 412, 0, 0, 0, 0), (412, .iaload, 413, 0, 0, 0, 0), (413, .aload_n 0, 414, 0, 0, 0, 0), (414, .iload 4, 416, 0, 0, 0, 0), (416, .iconst 3, 417, 0, 0, 0, 3), (417, .iadd, 418, 0, 0, 0, 0), (418, .iaload, 419, 0, 0, 0, 0), (419, .invokevirtual 66, 422, 138, 4, 0, 0)]
def pl_cd6 : List mEn := [(422, .aload_n 2, 423, 0, 0, 0, 0), (423, .invokevirtual 51, 426, 100, 1, 0, 0), (426, .iload 5, 428, 0, 0, 0, 0), (428, .if_icmp .eq 5, 431, 433, 0, 0, 0), (431, .iconst 0, 432, 0, 0, 0, 0), (432, .ireturn, 433, 0, 0, 2, 0), (433, .goto 451, 436, 884, 0, 0, 0), (436, .aload_n 1, 437, 0, 0, 0, 0), (437, .aload_n 0, 438, 0, 0, 0, 0), (438, .iload 4, 440, 0, 0, 0, 0), (440, .iconst 1, 441, 0, 0, 0, 1), (441, .iadd, 442, 0, 0, 0, 0), (442, .iaload, 443, 0, 0, 0, 0), (443, .aload_n 0, 444, 0, 0, 0, 0), (444, .iload 4, 446, 0, 0, 0, 0), (446, .iconst 2, 447, 0, 0, 0, 2), (447, .iadd, 448, 0, 0, 0, 0), (448, .iaload, 449, 0, 0, 0, 0), (449, .aload_n 0, 450, 0, 0, 0, 0), (450, .iload 4, 452, 0, 0, 0, 0), (452, .iconst 3, 453, 0, 0, 0, 3), (453, .iadd, 454, 0, 0, 0, 0), (454, .iaload, 455, 0, 0, 0, 0), (455, .invokestatic 67, 458, 155, 4, 8, 0), (458, .istore 5, 460, 0, 0, 0, 0), (460, .aload_n 2, 461, 0, 0, 0, 0), (461, .aload_n 0, 462, 0, 0, 0, 0), (462, .iload 4, 464, 0, 0, 0, 0), (464, .iconst 1, 465, 0, 0, 0, 1), (465, .iadd, 466, 0, 0, 0, 0), (466, .iaload, 467, 0, 0, 0, 0), (467, .aload_n 0, 468, 0, 0, 0, 0), (468, .iload 4, 470, 0, 0, 0, 0), (470, .iconst 2, 471, 0, 0, 0, 2), (471, .iadd, 472, 0, 0, 0, 0), (472, .iaload, 473, 0, 0, 0, 0), (473, .aload_n 0, 474, 0, 0, 0, 0), (474, .iload 4, 476, 0, 0, 0, 0), (476, .iconst 3, 477, 0, 0, 0, 3), (477, .iadd, 478, 0, 0, 0, 0)]
def pl_cd7 : List mEn := [(478, .iaload, 479, 0, 0, 0, 0), (479, .invokevirtual 69, 482, 139, 4, 0, 0), (482, .aload_n 2, 483, 0, 0, 0, 0), (483, .invokevirtual 51, 486, 100, 1, 0, 0), (486, .iload 5, 488, 0, 0, 0, 0), (488, .if_icmp .eq 5, 491, 493, 0, 0, 0), (491, .iconst 0, 492, 0, 0, 0, 0), (492, .ireturn, 493, 0, 0, 2, 0), (493, .goto 391, 496, 884, 0, 0, 0), (496, .aload_n 1, 497, 0, 0, 0, 0), (497, .invokestatic 70, 500, 156, 1, 8, 0), (500, .istore 5, 502, 0, 0, 0, 0), (502, .aload_n 2, 503, 0, 0, 0, 0), (503, .invokevirtual 73, 506, 140, 1, 0, 0), (506, .aload_n 2, 507, 0, 0, 0, 0), (507, .invokevirtual 51, 510, 100, 1, 0, 0), (510, .iload 5, 512, 0, 0, 0, 0), (512, .if_icmp .eq 5, 515, 517, 0, 0, 0), (515, .iconst 0, 516, 0, 0, 0, 0), (516, .ireturn, 517, 0, 0, 2, 0), (517, .goto 367, 520, 884, 0, 0, 0), (520, .aload_n 1, 521, 0, 0, 0, 0), (521, .aload_n 0, 522, 0, 0, 0, 0), (522, .iload 4, 524, 0, 0, 0, 0), (524, .iconst 1, 525, 0, 0, 0, 1), (525, .iadd, 526, 0, 0, 0, 0), (526, .iaload, 527, 0, 0, 0, 0), (527, .aload_n 3, 528, 0, 0, 0, 0), (528, .invokestatic 74, 531, 157, 3, 8, 0), (531, .istore 5, 533, 0, 0, 0, 0), (533, .aload_n 2, 534, 0, 0, 0, 0), (534, .aload_n 0, 535, 0, 0, 0, 0), (535, .iload 4, 537, 0, 0, 0, 0), (537, .iconst 1, 538, 0, 0, 0, 1), (538, .iadd, 539, 0, 0, 0, 0), (539, .iaload, 540, 0, 0, 0, 0), (540, .invokevirtual 77, 543, 141, 2, 0, 0), (543, .istore 6, 545, 0, 0, 0, 0), (545, .aload_n 2, 546, 0, 0, 0, 0), (546, .invokevirtual 51, 549, 100, 1, 0, 0)]
def pl_cd8 : List mEn := [(549, .iload 5, 551, 0, 0, 0, 0), (551, .if_icmp .eq 5, 554, 556, 0, 0, 0), (554, .iconst 0, 555, 0, 0, 0, 0), (555, .ireturn, 556, 0, 0, 2, 0), (556, .iload 5, 558, 0, 0, 0, 0), (558, .ifCond .ne 15, 561, 573, 0, 0, 0), (561, .aload_n 3, 562, 0, 0, 0, 0), (562, .iconst 0, 563, 0, 0, 0, 0), (563, .laload, 564, 0, 0, 0, 0), (564, .iload 6, 566, 0, 0, 0, 0), (566, .i2l, 567, 0, 0, 0, 0), (567, .lcmp, 568, 0, 0, 0, 0), (568, .ifCond .eq 5, 571, 573, 0, 0, 0), (571, .iconst 0, 572, 0, 0, 0, 0), (572, .ireturn, 573, 0, 0, 2, 0), (573, .goto 311, 576, 884, 0, 0, 0), (576, .aload_n 1, 577, 0, 0, 0, 0), (577, .aload_n 0, 578, 0, 0, 0, 0), (578, .iload 4, 580, 0, 0, 0, 0), (580, .iconst 1, 581, 0, 0, 0, 1), (581, .iadd, 582, 0, 0, 0, 0), (582, .iaload, 583, 0, 0, 0, 0), (583, .aload_n 0, 584, 0, 0, 0, 0), (584, .iload 4, 586, 0, 0, 0, 0), (586, .iconst 2, 587, 0, 0, 0, 2), (587, .iadd, 588, 0, 0, 0, 0), (588, .iaload, 589, 0, 0, 0, 0), (589, .invokevirtual 78, 592, 78, 3, 0, 0), (592, .aload_n 2, 593, 0, 0, 0, 0), (593, .aload_n 0, 594, 0, 0, 0, 0), (594, .iload 4, 596, 0, 0, 0, 0), (596, .iconst 1, 597, 0, 0, 0, 1), (597, .iadd, 598, 0, 0, 0, 0), (598, .iaload, 599, 0, 0, 0, 0), (599, .aload_n 0, 600, 0, 0, 0, 0), (600, .iload 4, 602, 0, 0, 0, 0), (602, .iconst 2, 603, 0, 0, 0, 2), (603, .iadd, 604, 0, 0, 0, 0), (604, .iaload, 605, 0, 0, 0, 0), (605, .invokevirtual 82, 608, 142, 3, 0, 0)]
def pl_cd9 : List mEn := [(608, .if_icmp .eq 276, 611, 884, 0, 0, 0), (611, .iconst 0, 612, 0, 0, 0, 0), (612, .ireturn, 613, 0, 0, 2, 0), (613, .aload_n 1, 614, 0, 0, 0, 0), (614, .aload_n 0, 615, 0, 0, 0, 0), (615, .iload 4, 617, 0, 0, 0, 0), (617, .iconst 1, 618, 0, 0, 0, 1), (618, .iadd, 619, 0, 0, 0, 0), (619, .iaload, 620, 0, 0, 0, 0), (620, .aload_n 0, 621, 0, 0, 0, 0), (621, .iload 4, 623, 0, 0, 0, 0), (623, .iconst 2, 624, 0, 0, 0, 2), (624, .iadd, 625, 0, 0, 0, 0), (625, .iaload, 626, 0, 0, 0, 0), (626, .aload_n 0, 627, 0, 0, 0, 0), (627, .iload 4, 629, 0, 0, 0, 0), (629, .iconst 3, 630, 0, 0, 0, 3), (630, .iadd, 631, 0, 0, 0, 0), (631, .iaload, 632, 0, 0, 0, 0), (632, .invokevirtual 83, 635, 79, 4, 0, 0), (635, .aload_n 2, 636, 0, 0, 0, 0), (636, .aload_n 0, 637, 0, 0, 0, 0), (637, .iload 4, 639, 0, 0, 0, 0), (639, .iconst 1, 640, 0, 0, 0, 1), (640, .iadd, 641, 0, 0, 0, 0), (641, .iaload, 642, 0, 0, 0, 0), (642, .aload_n 0, 643, 0, 0, 0, 0), (643, .iload 4, 645, 0, 0, 0, 0), (645, .iconst 2, 646, 0, 0, 0, 2), (646, .iadd, 647, 0, 0, 0, 0), (647, .iaload, 648, 0, 0, 0, 0), (648, .aload_n 0, 649, 0, 0, 0, 0), (649, .iload 4, 651, 0, 0, 0, 0), (651, .iconst 3, 652, 0, 0, 0, 3), (652, .iadd, 653, 0, 0, 0, 0), (653, .iaload, 654, 0, 0, 0, 0), (654, .invokevirtual 87, 657, 144, 4, 0, 0), (657, .if_icmp .eq 227, 660, 884, 0, 0, 0), (660, .iconst 0, 661, 0, 0, 0, 0), (661, .ireturn, 662, 0, 0, 2, 0)]
def pl_cd10 : List mEn := [(662, .aload_n 1, 663, 0, 0, 0, 0), (663, .aload_n 0, 664, 0, 0, 0, 0), (664, .iload 4, 666, 0, 0, 0, 0), (666, .iconst 1, 667, 0, 0, 0, 1), (667, .iadd, 668, 0, 0, 0, 0), (668, .iaload, 669, 0, 0, 0, 0), (669, .aload_n 0, 670, 0, 0, 0, 0), (670, .iload 4, 672, 0, 0, 0, 0), (672, .iconst 2, 673, 0, 0, 0, 2), (673, .iadd, 674, 0, 0, 0, 0), (674, .iaload, 675, 0, 0, 0, 0), (675, .aload_n 0, 676, 0, 0, 0, 0), (676, .iload 4, 678, 0, 0, 0, 0), (678, .iconst 3, 679, 0, 0, 0, 3), (679, .iadd, 680, 0, 0, 0, 0), (680, .iaload, 681, 0, 0, 0, 0), (681, .invokevirtual 88, 684, 80, 4, 0, 0), (684, .aload_n 2, 685, 0, 0, 0, 0), (685, .aload_n 0, 686, 0, 0, 0, 0), (686, .iload 4, 688, 0, 0, 0, 0), (688, .iconst 1, 689, 0, 0, 0, 1), (689, .iadd, 690, 0, 0, 0, 0), (690, .iaload, 691, 0, 0, 0, 0), (691, .aload_n 0, 692, 0, 0, 0, 0), (692, .iload 4, 694, 0, 0, 0, 0), (694, .iconst 2, 695, 0, 0, 0, 2), (695, .iadd, 696, 0, 0, 0, 0), (696, .iaload, 697, 0, 0, 0, 0), (697, .aload_n 0, 698, 0, 0, 0, 0), (698, .iload 4, 700, 0, 0, 0, 0), (700, .iconst 3, 701, 0, 0, 0, 3), (701, .iadd, 702, 0, 0, 0, 0), (702, .iaload, 703, 0, 0, 0, 0), (703, .invokevirtual 91, 706, 145, 4, 0, 0), (706, .if_icmp .eq 178, 709, 884, 0, 0, 0), (709, .iconst 0, 710, 0, 0, 0, 0), (710, .ireturn, 711, 0, 0, 2, 0), (711, .aload_n 1, 712, 0, 0, 0, 0), (712, .aload_n 0, 713, 0, 0, 0, 0), (713, .iload 4, 715, 0, 0, 0, 0)]
def pl_cd11 : List mEn := [(715, .iconst 1, 716, 0, 0, 0, 1), (716, .iadd, 717, 0, 0, 0, 0), (717, .iaload, 718, 0, 0, 0, 0), (718, .aload_n 0, 719, 0, 0, 0, 0), (719, .iload 4, 721, 0, 0, 0, 0), (721, .iconst 2, 722, 0, 0, 0, 2), (722, .iadd, 723, 0, 0, 0, 0), (723, .iaload, 724, 0, 0, 0, 0), (724, .invokevirtual 92, 727, 81, 3, 0, 0), (727, .aload_n 2, 728, 0, 0, 0, 0), (728, .aload_n 0, 729, 0, 0, 0, 0), (729, .iload 4, 731, 0, 0, 0, 0), (731, .iconst 1, 732, 0, 0, 0, 1), (732, .iadd, 733, 0, 0, 0, 0), (733, .iaload, 734, 0, 0, 0, 0), (734, .aload_n 0, 735, 0, 0, 0, 0), (735, .iload 4, 737, 0, 0, 0, 0), (737, .iconst 2, 738, 0, 0, 0, 2), (738, .iadd, 739, 0, 0, 0, 0), (739, .iaload, 740, 0, 0, 0, 0), (740, .invokevirtual 95, 743, 146, 3, 0, 0), (743, .if_icmp .eq 141, 746, 884, 0, 0, 0), (746, .iconst 0, 747, 0, 0, 0, 0), (747, .ireturn, 748, 0, 0, 2, 0), (748, .aload_n 1, 749, 0, 0, 0, 0), (749, .aload_n 0, 750, 0, 0, 0, 0), (750, .iload 4, 752, 0, 0, 0, 0), (752, .iconst 1, 753, 0, 0, 0, 1), (753, .iadd, 754, 0, 0, 0, 0), (754, .iaload, 755, 0, 0, 0, 0), (755, .aload_n 0, 756, 0, 0, 0, 0), (756, .iload 4, 758, 0, 0, 0, 0), (758, .iconst 2, 759, 0, 0, 0, 2), (759, .iadd, 760, 0, 0, 0, 0), (760, .iaload, 761, 0, 0, 0, 0), (761, .invokevirtual 96, 764, 82, 3, 0, 0), (764, .aload_n 2, 765, 0, 0, 0, 0), (765, .aload_n 0, 766, 0, 0, 0, 0), (766, .iload 4, 768, 0, 0, 0, 0), (768, .iconst 1, 769, 0, 0, 0, 1)]
def pl_cd12 : List mEn := [(769, .iadd, 770, 0, 0, 0, 0), (770, .iaload, 771, 0, 0, 0, 0), (771, .aload_n 0, 772, 0, 0, 0, 0), (772, .iload 4, 774, 0, 0, 0, 0), (774, .iconst 2, 775, 0, 0, 0, 2), (775, .iadd, 776, 0, 0, 0, 0), (776, .iaload, 777, 0, 0, 0, 0), (777, .invokevirtual 99, 780, 147, 3, 0, 0), (780, .if_icmp .eq 104, 783, 884, 0, 0, 0), (783, .iconst 0, 784, 0, 0, 0, 0), (784, .ireturn, 785, 0, 0, 2, 0), (785, .aload_n 1, 786, 0, 0, 0, 0), (786, .aload_n 0, 787, 0, 0, 0, 0), (787, .iload 4, 789, 0, 0, 0, 0), (789, .iconst 1, 790, 0, 0, 0, 1), (790, .iadd, 791, 0, 0, 0, 0), (791, .iaload, 792, 0, 0, 0, 0), (792, .aload_n 0, 793, 0, 0, 0, 0), (793, .iload 4, 795, 0, 0, 0, 0), (795, .iconst 2, 796, 0, 0, 0, 2), (796, .iadd, 797, 0, 0, 0, 0), (797, .iaload, 798, 0, 0, 0, 0), (798, .invokevirtual 100, 801, 83, 3, 0, 0), (801, .aload_n 2, 802, 0, 0, 0, 0), (802, .aload_n 0, 803, 0, 0, 0, 0), (803, .iload 4, 805, 0, 0, 0, 0), (805, .iconst 1, 806, 0, 0, 0, 1), (806, .iadd, 807, 0, 0, 0, 0), (807, .iaload, 808, 0, 0, 0, 0), (808, .aload_n 0, 809, 0, 0, 0, 0), (809, .iload 4, 811, 0, 0, 0, 0), (811, .iconst 2, 812, 0, 0, 0, 2), (812, .iadd, 813, 0, 0, 0, 0), (813, .iaload, 814, 0, 0, 0, 0), (814, .invokevirtual 103, 817, 148, 3, 0, 0), (817, .if_icmp .eq 67, 820, 884, 0, 0, 0), (820, .iconst 0, 821, 0, 0, 0, 0), (821, .ireturn, 822, 0, 0, 2, 0), (822, .aload_n 1, 823, 0, 0, 0, 0), (823, .aload_n 0, 824, 0, 0, 0, 0)]
def pl_cd13 : List mEn := [(824, .iload 4, 826, 0, 0, 0, 0), (826, .iconst 1, 827, 0, 0, 0, 1), (827, .iadd, 828, 0, 0, 0, 0), (828, .iaload, 829, 0, 0, 0, 0), (829, .aload_n 0, 830, 0, 0, 0, 0), (830, .iload 4, 832, 0, 0, 0, 0), (832, .iconst 2, 833, 0, 0, 0, 2), (833, .iadd, 834, 0, 0, 0, 0), (834, .iaload, 835, 0, 0, 0, 0), (835, .invokevirtual 104, 838, 84, 3, 0, 0), (838, .aload_n 2, 839, 0, 0, 0, 0), (839, .aload_n 0, 840, 0, 0, 0, 0), (840, .iload 4, 842, 0, 0, 0, 0), (842, .iconst 1, 843, 0, 0, 0, 1), (843, .iadd, 844, 0, 0, 0, 0), (844, .iaload, 845, 0, 0, 0, 0), (845, .aload_n 0, 846, 0, 0, 0, 0), (846, .iload 4, 848, 0, 0, 0, 0), (848, .iconst 2, 849, 0, 0, 0, 2), (849, .iadd, 850, 0, 0, 0, 0), (850, .iaload, 851, 0, 0, 0, 0), (851, .invokevirtual 107, 854, 149, 3, 0, 0), (854, .if_icmp .eq 30, 857, 884, 0, 0, 0), (857, .iconst 0, 858, 0, 0, 0, 0), (858, .ireturn, 859, 0, 0, 2, 0), (859, .aload_n 1, 860, 0, 0, 0, 0), (860, .aload_n 0, 861, 0, 0, 0, 0), (861, .iload 4, 863, 0, 0, 0, 0), (863, .iconst 1, 864, 0, 0, 0, 1), (864, .iadd, 865, 0, 0, 0, 0), (865, .iaload, 866, 0, 0, 0, 0), (866, .invokevirtual 108, 869, 85, 2, 0, 0), (869, .aload_n 2, 870, 0, 0, 0, 0), (870, .aload_n 0, 871, 0, 0, 0, 0), (871, .iload 4, 873, 0, 0, 0, 0), (873, .iconst 1, 874, 0, 0, 0, 1), (874, .iadd, 875, 0, 0, 0, 0), (875, .iaload, 876, 0, 0, 0, 0), (876, .invokevirtual 111, 879, 150, 2, 0, 0), (879, .if_icmp .eq 5, 882, 884, 0, 0, 0)]
def pl_cd14 : List mEn := [(882, .iconst 0, 883, 0, 0, 0, 0), (883, .ireturn, 884, 0, 0, 2, 0), (884, .iinc 4 6, 887, 0, 0, 0, 6), (887, .goto (-864), 890, 23, 0, 0, 0), (890, .iconst 1, 891, 0, 0, 0, 1), (891, .ireturn, 892, 0, 0, 2, 0)]
set_option maxRecDepth 100000 in
theorem dw_law0 : ∀ en ∈ pl_cd0, decode code en.1 = .ok (en.2.1, en.2.2.1 - en.1) := by decide +kernel
set_option maxRecDepth 100000 in
theorem dw_law1 : ∀ en ∈ pl_cd1, decode code en.1 = .ok (en.2.1, en.2.2.1 - en.1) := by decide +kernel
set_option maxRecDepth 100000 in
theorem dw_law2 : ∀ en ∈ pl_cd2, decode code en.1 = .ok (en.2.1, en.2.2.1 - en.1) := by decide +kernel
set_option maxRecDepth 100000 in
theorem dw_law3 : ∀ en ∈ pl_cd3, decode code en.1 = .ok (en.2.1, en.2.2.1 - en.1) := by decide +kernel
set_option maxRecDepth 100000 in
theorem dw_law4 : ∀ en ∈ pl_cd4, decode code en.1 = .ok (en.2.1, en.2.2.1 - en.1) := by decide +kernel
set_option maxRecDepth 100000 in
theorem dw_law5 : ∀ en ∈ pl_cd5, decode code en.1 = .ok (en.2.1, en.2.2.1 - en.1) := by decide +kernel
set_option maxRecDepth 100000 in
theorem dw_law6 : ∀ en ∈ pl_cd6, decode code en.1 = .ok (en.2.1, en.2.2.1 - en.1) := by decide +kernel
set_option maxRecDepth 100000 in
theorem dw_law7 : ∀ en ∈ pl_cd7, decode code en.1 = .ok (en.2.1, en.2.2.1 - en.1) := by decide +kernel
set_option maxRecDepth 100000 in
theorem dw_law8 : ∀ en ∈ pl_cd8, decode code en.1 = .ok (en.2.1, en.2.2.1 - en.1) := by decide +kernel
set_option maxRecDepth 100000 in
theorem dw_law9 : ∀ en ∈ pl_cd9, decode code en.1 = .ok (en.2.1, en.2.2.1 - en.1) := by decide +kernel
set_option maxRecDepth 100000 in
theorem dw_law10 : ∀ en ∈ pl_cd10, decode code en.1 = .ok (en.2.1, en.2.2.1 - en.1) := by decide +kernel
set_option maxRecDepth 100000 in
theorem dw_law11 : ∀ en ∈ pl_cd11, decode code en.1 = .ok (en.2.1, en.2.2.1 - en.1) := by decide +kernel
set_option maxRecDepth 100000 in
theorem dw_law12 : ∀ en ∈ pl_cd12, decode code en.1 = .ok (en.2.1, en.2.2.1 - en.1) := by decide +kernel
set_option maxRecDepth 100000 in
theorem dw_law13 : ∀ en ∈ pl_cd13, decode code en.1 = .ok (en.2.1, en.2.2.1 - en.1) := by decide +kernel
set_option maxRecDepth 100000 in
theorem dw_law14 : ∀ en ∈ pl_cd14, decode code en.1 = .ok (en.2.1, en.2.2.1 - en.1) := by decide +kernel
set_option maxRecDepth 100000 in
theorem pl_cd_eq : pl_cd = pl_cd0 ++ (pl_cd1 ++ (pl_cd2 ++ (pl_cd3 ++ (pl_cd4 ++ (pl_cd5 ++ (pl_cd6 ++ (pl_cd7 ++ (pl_cd8 ++ (pl_cd9 ++ (pl_cd10 ++ (pl_cd11 ++ (pl_cd12 ++ (pl_cd13 ++ (pl_cd14)))))))))))))) := rfl
theorem dw_law : ∀ en ∈ pl_cd, decode code en.1 = .ok (en.2.1, en.2.2.1 - en.1) := by
  rw [pl_cd_eq]
  exact List.forall_mem_append.mpr ⟨dw_law0, List.forall_mem_append.mpr ⟨dw_law1, List.forall_mem_append.mpr ⟨dw_law2, List.forall_mem_append.mpr ⟨dw_law3, List.forall_mem_append.mpr ⟨dw_law4, List.forall_mem_append.mpr ⟨dw_law5, List.forall_mem_append.mpr ⟨dw_law6, List.forall_mem_append.mpr ⟨dw_law7, List.forall_mem_append.mpr ⟨dw_law8, List.forall_mem_append.mpr ⟨dw_law9, List.forall_mem_append.mpr ⟨dw_law10, List.forall_mem_append.mpr ⟨dw_law11, List.forall_mem_append.mpr ⟨dw_law12, List.forall_mem_append.mpr ⟨dw_law13, dw_law14⟩⟩⟩⟩⟩⟩⟩⟩⟩⟩⟩⟩⟩⟩
set_option maxRecDepth 100000 in
set_option maxHeartbeats 4000000 in
theorem ow_law (cA : Nat → ClassId) {Ts : List Cond} (hG : ∀ w ∈ pg_G, w ∈ Ts) : ∀ en ∈ pl_cd, mq_ok code 7 "PartitionKernelLaw" Ts pg_cl (pg_tys cA) (pg_E cA) pg_Z pl_sw pg_mx false (some .boolean) pg_X en := mq_ok_of dw_law ⟨⟨rfl, fun _ => ⟨(by decide : 6 ≠ 999), _, _, _, _, okl_6 cA hG, hG _ gl_61, hG _ gl_62, hG _ gl_45⟩⟩,
  ⟨rfl, trivial⟩,
  ⟨rfl, 0, rfl, ⟨okg_of 70 hG gl_c70, hG _ gl_45, Or.inl (hG _ gl_63), ⟨by decide +kernel, by decide +kernel, by decide +kernel⟩, by decide +kernel⟩, rfl, hG _ gl_64, rfl⟩,
  ⟨rfl, (by decide : 1 < 7)⟩,
  ⟨rfl, fun _ => ⟨(by decide : 7 ≠ 999), _, _, _, _, okl_7 cA hG, hG _ gl_790, hG _ gl_791, hG _ gl_52⟩⟩,
  ⟨rfl, trivial⟩,
  ⟨rfl, 0, rfl, ⟨okg_of 99 hG gl_c99, hG _ gl_52, Or.inl (hG _ gl_792), ⟨by decide +kernel, by decide +kernel, by decide +kernel⟩, by decide +kernel⟩, rfl, hG _ gl_793, rfl⟩,
  ⟨rfl, (by decide : 2 < 7)⟩,
  ⟨rfl, (by decide : Int32.ofInt 1 = 1)⟩,
  ⟨rfl, (by decide : 40 ≠ 999), (by decide : 1 ≤ 65536), Or.inr (Or.inl ⟨rfl, rfl, hG _ gl_1130⟩)⟩,
  ⟨rfl, (by decide : 3 < 7)⟩,
  ⟨rfl, (by decide : Int32.ofInt 0 = 0)⟩,
  ⟨rfl, (by decide : 4 < 7)⟩,
  ⟨rfl, trivial⟩,
  ⟨rfl, trivial⟩,
  ⟨rfl, trivial⟩,
  ⟨rfl, (by decide : (Int8.ofInt 6).toInt32 = 6)⟩,
  ⟨rfl, trivial⟩,
  ⟨rfl, (by decide : ((30 : Nat) : Int) + 860 = ((890 : Nat) : Int))⟩,
  ⟨rfl, trivial⟩,
  ⟨rfl, trivial⟩,
  ⟨rfl, trivial⟩,
  ⟨rfl, (by decide : (Int8.ofInt 15).toInt32 = 15)⟩,
  ⟨rfl, trivial⟩,
  ⟨by decide, by decide, by decide, by decide, by decide, by decide, by decide, by decide, by decide, by decide, by decide, by decide, by decide, by decide, by decide, by decide, by decide, by decide, by decide, by decide, by decide, by decide, by decide, by decide, by decide, by decide, by decide, by decide, by decide, by decide, by decide, by decide, trivial⟩,
  ⟨rfl, trivial⟩,
  ⟨rfl, trivial⟩,
  ⟨rfl, trivial⟩,
  ⟨rfl, (by decide : Int32.ofInt 1 = 1)⟩,
  ⟨rfl, trivial⟩,
  ⟨rfl, trivial⟩,
  ⟨rfl, trivial⟩,
  ⟨rfl, trivial⟩,
  ⟨rfl, (by decide : Int32.ofInt 2 = 2)⟩,
  ⟨rfl, trivial⟩,
  ⟨rfl, trivial⟩,
  ⟨rfl, trivial⟩,
  ⟨rfl, (by decide : 5 < 7)⟩,
  ⟨rfl, trivial⟩,
  ⟨rfl, trivial⟩,
  ⟨rfl, trivial⟩,
  ⟨rfl, (by decide : Int32.ofInt 1 = 1)⟩,
  ⟨rfl, trivial⟩,
  ⟨rfl, trivial⟩,
  ⟨rfl, trivial⟩,
  ⟨rfl, trivial⟩,
  ⟨rfl, (by decide : Int32.ofInt 2 = 2)⟩,
  ⟨rfl, trivial⟩,
  ⟨rfl, trivial⟩,
  ⟨rfl, 2, _, rfl, ⟨okg_of 135 hG gl_c135, hG _ gl_52, hG _ gl_934, ⟨by decide +kernel, by decide +kernel, by decide +kernel⟩, by decide +kernel⟩, hG _ gl_935, rfl, hG _ gl_936⟩,
  ⟨rfl, trivial⟩,
  ⟨rfl, 0, _, rfl, ⟨okg_of 100 hG gl_c100, hG _ gl_52, hG _ gl_930, ⟨by decide +kernel, by decide +kernel, by decide +kernel⟩, by decide +kernel⟩, hG _ gl_931, rfl, hG _ gl_932⟩,
  ⟨rfl, trivial⟩,
  ⟨rfl, (by decide : ((156 : Nat) : Int) + 5 = ((161 : Nat) : Int))⟩,
  ⟨rfl, (by decide : Int32.ofInt 0 = 0)⟩,
  ⟨rfl, Or.inl ⟨rfl, rfl⟩⟩,
  ⟨rfl, (by decide : ((161 : Nat) : Int) + 723 = ((884 : Nat) : Int))⟩,
  ⟨rfl, trivial⟩,
  ⟨rfl, trivial⟩,
  ⟨rfl, trivial⟩,
  ⟨rfl, (by decide : Int32.ofInt 1 = 1)⟩,
  ⟨rfl, trivial⟩,
  ⟨rfl, trivial⟩,
  ⟨rfl, trivial⟩,
  ⟨rfl, trivial⟩,
  ⟨rfl, (by decide : Int32.ofInt 2 = 2)⟩,
  ⟨rfl, trivial⟩,
  ⟨rfl, trivial⟩,
  ⟨rfl, trivial⟩,
  ⟨rfl, trivial⟩,
  ⟨rfl, (by decide : Int32.ofInt 3 = 3)⟩,
  ⟨rfl, trivial⟩,
  ⟨rfl, trivial⟩,
  ⟨rfl, trivial⟩,
  ⟨rfl, trivial⟩,
  ⟨rfl, (by decide : Int32.ofInt 4 = 4)⟩,
  ⟨rfl, trivial⟩,
  ⟨rfl, trivial⟩,
  ⟨rfl, trivial⟩,
  ⟨rfl, trivial⟩,
  ⟨rfl, (by decide : Int32.ofInt 5 = 5)⟩,
  ⟨rfl, trivial⟩,
  ⟨rfl, trivial⟩,
  ⟨rfl, trivial⟩,
  ⟨rfl, trivial⟩,
  ⟨rfl, (by decide : 5 < 7)⟩,
  ⟨rfl, trivial⟩,
  ⟨rfl, trivial⟩,
  ⟨rfl, trivial⟩,
  ⟨rfl, (by decide : Int32.ofInt 1 = 1)⟩,
  ⟨rfl, trivial⟩,
  ⟨rfl, trivial⟩,
  ⟨rfl, trivial⟩,
  ⟨rfl, trivial⟩,
  ⟨rfl, (by decide : Int32.ofInt 2 = 2)⟩,
  ⟨rfl, trivial⟩,
  ⟨rfl, trivial⟩,
  ⟨rfl, trivial⟩,
  ⟨rfl, trivial⟩,
  ⟨rfl, (by decide : Int32.ofInt 3 = 3)⟩,
  ⟨rfl, trivial⟩,
  ⟨rfl, trivial⟩,
  ⟨rfl, trivial⟩,
  ⟨rfl, trivial⟩,
  ⟨rfl, (by decide : Int32.ofInt 4 = 4)⟩,
  ⟨rfl, trivial⟩,
  ⟨rfl, trivial⟩,
  ⟨rfl, trivial⟩,
  ⟨rfl, trivial⟩,
  ⟨rfl, (by decide : Int32.ofInt 5 = 5)⟩,
  ⟨rfl, trivial⟩,
  ⟨rfl, trivial⟩,
  ⟨rfl, 5, _, rfl, ⟨okg_of 136 hG gl_c136, hG _ gl_52, hG _ gl_941, ⟨by decide +kernel, by decide +kernel, by decide +kernel⟩, by decide +kernel⟩, hG _ gl_942, rfl, hG _ gl_943⟩,
  ⟨rfl, (by decide : 6 < 7)⟩,
  ⟨rfl, trivial⟩,
  ⟨rfl, 0, _, rfl, ⟨okg_of 100 hG gl_c100, hG _ gl_52, hG _ gl_930, ⟨by decide +kernel, by decide +kernel, by decide +kernel⟩, by decide +kernel⟩, hG _ gl_931, rfl, hG _ gl_932⟩,
  ⟨rfl, trivial⟩,
  ⟨rfl, (by decide : ((243 : Nat) : Int) + 5 = ((248 : Nat) : Int))⟩,
  ⟨rfl, (by decide : Int32.ofInt 0 = 0)⟩,
  ⟨rfl, Or.inl ⟨rfl, rfl⟩⟩,
  ⟨rfl, trivial⟩,
  ⟨rfl, (by decide : ((250 : Nat) : Int) + 15 = ((265 : Nat) : Int))⟩,
  ⟨rfl, trivial⟩,
  ⟨rfl, (by decide : Int32.ofInt 0 = 0)⟩,
  ⟨rfl, trivial⟩,
  ⟨rfl, trivial⟩,
  ⟨rfl, trivial⟩,
  ⟨rfl, trivial⟩,
  ⟨rfl, (by decide : ((260 : Nat) : Int) + 5 = ((265 : Nat) : Int))⟩,
  ⟨rfl, (by decide : Int32.ofInt 0 = 0)⟩,
  ⟨rfl, Or.inl ⟨rfl, rfl⟩⟩,
  ⟨rfl, (by decide : ((265 : Nat) : Int) + 619 = ((884 : Nat) : Int))⟩,
  ⟨rfl, trivial⟩,
  ⟨rfl, trivial⟩,
  ⟨rfl, trivial⟩,
  ⟨rfl, (by decide : Int32.ofInt 1 = 1)⟩,
  ⟨rfl, trivial⟩,
  ⟨rfl, trivial⟩,
  ⟨rfl, (by decide : ((275 : Nat) : Int) + 7 = ((282 : Nat) : Int))⟩,
  ⟨rfl, (by decide : Int32.ofInt 1 = 1)⟩,
  ⟨rfl, (by decide : ((279 : Nat) : Int) + 4 = ((283 : Nat) : Int))⟩,
  ⟨rfl, (by decide : Int32.ofInt 0 = 0)⟩,
  ⟨rfl, trivial⟩,
  ⟨rfl, trivial⟩,
  ⟨rfl, (by decide : Int32.ofInt 2 = 2)⟩,
  ⟨rfl, trivial⟩,
  ⟨rfl, trivial⟩,
  ⟨rfl, trivial⟩,
  ⟨rfl, trivial⟩,
  ⟨rfl, (by decide : Int32.ofInt 3 = 3)⟩,
  ⟨rfl, trivial⟩,
  ⟨rfl, trivial⟩,
  ⟨rfl, trivial⟩,
  ⟨rfl, trivial⟩,
  ⟨rfl, (by decide : Int32.ofInt 4 = 4)⟩,
  ⟨rfl, trivial⟩,
  ⟨rfl, trivial⟩,
  ⟨rfl, trivial⟩,
  ⟨rfl, trivial⟩,
  ⟨rfl, (by decide : 5 < 7)⟩,
  ⟨rfl, trivial⟩,
  ⟨rfl, trivial⟩,
  ⟨rfl, trivial⟩,
  ⟨rfl, (by decide : Int32.ofInt 1 = 1)⟩,
  ⟨rfl, trivial⟩,
  ⟨rfl, trivial⟩,
  ⟨rfl, (by decide : ((314 : Nat) : Int) + 7 = ((321 : Nat) : Int))⟩,
  ⟨rfl, (by decide : Int32.ofInt 1 = 1)⟩,
  ⟨rfl, (by decide : ((318 : Nat) : Int) + 4 = ((322 : Nat) : Int))⟩,
  ⟨rfl, (by decide : Int32.ofInt 0 = 0)⟩,
  ⟨rfl, trivial⟩,
  ⟨rfl, trivial⟩,
  ⟨rfl, (by decide : Int32.ofInt 2 = 2)⟩,
  ⟨rfl, trivial⟩,
  ⟨rfl, trivial⟩,
  ⟨rfl, trivial⟩,
  ⟨rfl, trivial⟩,
  ⟨rfl, (by decide : Int32.ofInt 3 = 3)⟩,
  ⟨rfl, trivial⟩,
  ⟨rfl, trivial⟩,
  ⟨rfl, trivial⟩,
  ⟨rfl, trivial⟩,
  ⟨rfl, (by decide : Int32.ofInt 4 = 4)⟩,
  ⟨rfl, trivial⟩,
  ⟨rfl, trivial⟩,
  ⟨rfl, 4, _, rfl, ⟨okg_of 137 hG gl_c137, hG _ gl_52, hG _ gl_946, ⟨by decide +kernel, by decide +kernel, by decide +kernel⟩, by decide +kernel⟩, hG _ gl_947, rfl, hG _ gl_948⟩,
  ⟨rfl, (by decide : 6 < 7)⟩,
  ⟨rfl, trivial⟩,
  ⟨rfl, 0, _, rfl, ⟨okg_of 100 hG gl_c100, hG _ gl_52, hG _ gl_930, ⟨by decide +kernel, by decide +kernel, by decide +kernel⟩, by decide +kernel⟩, hG _ gl_931, rfl, hG _ gl_932⟩,
  ⟨rfl, trivial⟩,
  ⟨rfl, (by decide : ((351 : Nat) : Int) + 5 = ((356 : Nat) : Int))⟩,
  ⟨rfl, (by decide : Int32.ofInt 0 = 0)⟩,
  ⟨rfl, Or.inl ⟨rfl, rfl⟩⟩,
  ⟨rfl, trivial⟩,
  ⟨rfl, (by decide : ((358 : Nat) : Int) + 15 = ((373 : Nat) : Int))⟩,
  ⟨rfl, trivial⟩,
  ⟨rfl, (by decide : Int32.ofInt 0 = 0)⟩,
  ⟨rfl, trivial⟩,
  ⟨rfl, trivial⟩,
  ⟨rfl, trivial⟩,
  ⟨rfl, trivial⟩,
  ⟨rfl, (by decide : ((368 : Nat) : Int) + 5 = ((373 : Nat) : Int))⟩,
  ⟨rfl, (by decide : Int32.ofInt 0 = 0)⟩,
  ⟨rfl, Or.inl ⟨rfl, rfl⟩⟩,
  ⟨rfl, (by decide : ((373 : Nat) : Int) + 511 = ((884 : Nat) : Int))⟩,
  ⟨rfl, trivial⟩,
  ⟨rfl, trivial⟩,
  ⟨rfl, trivial⟩,
  ⟨rfl, (by decide : Int32.ofInt 1 = 1)⟩,
  ⟨rfl, trivial⟩,
  ⟨rfl, trivial⟩,
  ⟨rfl, trivial⟩,
  ⟨rfl, trivial⟩,
  ⟨rfl, (by decide : Int32.ofInt 2 = 2)⟩,
  ⟨rfl, trivial⟩,
  ⟨rfl, trivial⟩,
  ⟨rfl, trivial⟩,
  ⟨rfl, trivial⟩,
  ⟨rfl, (by decide : Int32.ofInt 3 = 3)⟩,
  ⟨rfl, trivial⟩,
  ⟨rfl, trivial⟩,
  ⟨rfl, trivial⟩,
  ⟨rfl, (by decide : 5 < 7)⟩,
  ⟨rfl, trivial⟩,
  ⟨rfl, trivial⟩,
  ⟨rfl, trivial⟩,
  ⟨rfl, (by decide : Int32.ofInt 1 = 1)⟩,
  ⟨rfl, trivial⟩,
  ⟨rfl, trivial⟩,
  ⟨rfl, trivial⟩,
  ⟨rfl, trivial⟩,
  ⟨rfl, (by decide : Int32.ofInt 2 = 2)⟩,
  ⟨rfl, trivial⟩,
  ⟨rfl, trivial⟩,
  ⟨rfl, trivial⟩,
  ⟨rfl, trivial⟩,
  ⟨rfl, (by decide : Int32.ofInt 3 = 3)⟩,
  ⟨rfl, trivial⟩,
  ⟨rfl, trivial⟩,
  ⟨rfl, 3, _, rfl, ⟨okg_of 138 hG gl_c138, hG _ gl_52, hG _ gl_950, ⟨by decide +kernel, by decide +kernel, by decide +kernel⟩, by decide +kernel⟩, hG _ gl_951, rfl, hG _ gl_952⟩,
  ⟨rfl, trivial⟩,
  ⟨rfl, 0, _, rfl, ⟨okg_of 100 hG gl_c100, hG _ gl_52, hG _ gl_930, ⟨by decide +kernel, by decide +kernel, by decide +kernel⟩, by decide +kernel⟩, hG _ gl_931, rfl, hG _ gl_932⟩,
  ⟨rfl, trivial⟩,
  ⟨rfl, (by decide : ((428 : Nat) : Int) + 5 = ((433 : Nat) : Int))⟩,
  ⟨rfl, (by decide : Int32.ofInt 0 = 0)⟩,
  ⟨rfl, Or.inl ⟨rfl, rfl⟩⟩,
  ⟨rfl, (by decide : ((433 : Nat) : Int) + 451 = ((884 : Nat) : Int))⟩,
  ⟨rfl, trivial⟩,
  ⟨rfl, trivial⟩,
  ⟨rfl, trivial⟩,
  ⟨rfl, (by decide : Int32.ofInt 1 = 1)⟩,
  ⟨rfl, trivial⟩,
  ⟨rfl, trivial⟩,
  ⟨rfl, trivial⟩,
  ⟨rfl, trivial⟩,
  ⟨rfl, (by decide : Int32.ofInt 2 = 2)⟩,
  ⟨rfl, trivial⟩,
  ⟨rfl, trivial⟩,
  ⟨rfl, trivial⟩,
  ⟨rfl, trivial⟩,
  ⟨rfl, (by decide : Int32.ofInt 3 = 3)⟩,
  ⟨rfl, trivial⟩,
  ⟨rfl, trivial⟩,
  ⟨rfl, trivial⟩,
  ⟨rfl, (by decide : 5 < 7)⟩,
  ⟨rfl, trivial⟩,
  ⟨rfl, trivial⟩,
  ⟨rfl, trivial⟩,
  ⟨rfl, (by decide : Int32.ofInt 1 = 1)⟩,
  ⟨rfl, trivial⟩,
  ⟨rfl, trivial⟩,
  ⟨rfl, trivial⟩,
  ⟨rfl, trivial⟩,
  ⟨rfl, (by decide : Int32.ofInt 2 = 2)⟩,
  ⟨rfl, trivial⟩,
  ⟨rfl, trivial⟩,
  ⟨rfl, trivial⟩,
  ⟨rfl, trivial⟩,
  ⟨rfl, (by decide : Int32.ofInt 3 = 3)⟩,
  ⟨rfl, trivial⟩,
  ⟨rfl, trivial⟩,
  ⟨rfl, 3, _, rfl, ⟨okg_of 139 hG gl_c139, hG _ gl_52, hG _ gl_954, ⟨by decide +kernel, by decide +kernel, by decide +kernel⟩, by decide +kernel⟩, hG _ gl_955, rfl, hG _ gl_956⟩,
  ⟨rfl, trivial⟩,
  ⟨rfl, 0, _, rfl, ⟨okg_of 100 hG gl_c100, hG _ gl_52, hG _ gl_930, ⟨by decide +kernel, by decide +kernel, by decide +kernel⟩, by decide +kernel⟩, hG _ gl_931, rfl, hG _ gl_932⟩,
  ⟨rfl, trivial⟩,
  ⟨rfl, (by decide : ((488 : Nat) : Int) + 5 = ((493 : Nat) : Int))⟩,
  ⟨rfl, (by decide : Int32.ofInt 0 = 0)⟩,
  ⟨rfl, Or.inl ⟨rfl, rfl⟩⟩,
  ⟨rfl, (by decide : ((493 : Nat) : Int) + 391 = ((884 : Nat) : Int))⟩,
  ⟨rfl, trivial⟩,
  ⟨rfl, trivial⟩,
  ⟨rfl, (by decide : 5 < 7)⟩,
  ⟨rfl, trivial⟩,
  ⟨rfl, 0, _, rfl, ⟨okg_of 140 hG gl_c140, hG _ gl_52, hG _ gl_965, ⟨by decide +kernel, by decide +kernel, by decide +kernel⟩, by decide +kernel⟩, hG _ gl_966, rfl, hG _ gl_967⟩,
  ⟨rfl, trivial⟩,
  ⟨rfl, 0, _, rfl, ⟨okg_of 100 hG gl_c100, hG _ gl_52, hG _ gl_930, ⟨by decide +kernel, by decide +kernel, by decide +kernel⟩, by decide +kernel⟩, hG _ gl_931, rfl, hG _ gl_932⟩,
  ⟨rfl, trivial⟩,
  ⟨rfl, (by decide : ((512 : Nat) : Int) + 5 = ((517 : Nat) : Int))⟩,
  ⟨rfl, (by decide : Int32.ofInt 0 = 0)⟩,
  ⟨rfl, Or.inl ⟨rfl, rfl⟩⟩,
  ⟨rfl, (by decide : ((517 : Nat) : Int) + 367 = ((884 : Nat) : Int))⟩,
  ⟨rfl, trivial⟩,
  ⟨rfl, trivial⟩,
  ⟨rfl, trivial⟩,
  ⟨rfl, (by decide : Int32.ofInt 1 = 1)⟩,
  ⟨rfl, trivial⟩,
  ⟨rfl, trivial⟩,
  ⟨rfl, trivial⟩,
  ⟨rfl, trivial⟩,
  ⟨rfl, (by decide : 5 < 7)⟩,
  ⟨rfl, trivial⟩,
  ⟨rfl, trivial⟩,
  ⟨rfl, trivial⟩,
  ⟨rfl, (by decide : Int32.ofInt 1 = 1)⟩,
  ⟨rfl, trivial⟩,
  ⟨rfl, trivial⟩,
  ⟨rfl, 1, _, rfl, ⟨okg_of 141 hG gl_c141, hG _ gl_52, hG _ gl_977, ⟨by decide +kernel, by decide +kernel, by decide +kernel⟩, by decide +kernel⟩, hG _ gl_978, rfl, hG _ gl_979⟩,
  ⟨rfl, (by decide : 6 < 7)⟩,
  ⟨rfl, trivial⟩,
  ⟨rfl, 0, _, rfl, ⟨okg_of 100 hG gl_c100, hG _ gl_52, hG _ gl_930, ⟨by decide +kernel, by decide +kernel, by decide +kernel⟩, by decide +kernel⟩, hG _ gl_931, rfl, hG _ gl_932⟩,
  ⟨rfl, trivial⟩,
  ⟨rfl, (by decide : ((551 : Nat) : Int) + 5 = ((556 : Nat) : Int))⟩,
  ⟨rfl, (by decide : Int32.ofInt 0 = 0)⟩,
  ⟨rfl, Or.inl ⟨rfl, rfl⟩⟩,
  ⟨rfl, trivial⟩,
  ⟨rfl, (by decide : ((558 : Nat) : Int) + 15 = ((573 : Nat) : Int))⟩,
  ⟨rfl, trivial⟩,
  ⟨rfl, (by decide : Int32.ofInt 0 = 0)⟩,
  ⟨rfl, trivial⟩,
  ⟨rfl, trivial⟩,
  ⟨rfl, trivial⟩,
  ⟨rfl, trivial⟩,
  ⟨rfl, (by decide : ((568 : Nat) : Int) + 5 = ((573 : Nat) : Int))⟩,
  ⟨rfl, (by decide : Int32.ofInt 0 = 0)⟩,
  ⟨rfl, Or.inl ⟨rfl, rfl⟩⟩,
  ⟨rfl, (by decide : ((573 : Nat) : Int) + 311 = ((884 : Nat) : Int))⟩,
  ⟨rfl, trivial⟩,
  ⟨rfl, trivial⟩,
  ⟨rfl, trivial⟩,
  ⟨rfl, (by decide : Int32.ofInt 1 = 1)⟩,
  ⟨rfl, trivial⟩,
  ⟨rfl, trivial⟩,
  ⟨rfl, trivial⟩,
  ⟨rfl, trivial⟩,
  ⟨rfl, (by decide : Int32.ofInt 2 = 2)⟩,
  ⟨rfl, trivial⟩,
  ⟨rfl, trivial⟩,
  ⟨rfl, 2, _, rfl, ⟨okg_of 78 hG gl_c78, hG _ gl_45, hG _ gl_299, ⟨by decide +kernel, by decide +kernel, by decide +kernel⟩, by decide +kernel⟩, hG _ gl_300, rfl, hG _ gl_301⟩,
  ⟨rfl, trivial⟩,
  ⟨rfl, trivial⟩,
  ⟨rfl, trivial⟩,
  ⟨rfl, (by decide : Int32.ofInt 1 = 1)⟩,
  ⟨rfl, trivial⟩,
  ⟨rfl, trivial⟩,
  ⟨rfl, trivial⟩,
  ⟨rfl, trivial⟩,
  ⟨rfl, (by decide : Int32.ofInt 2 = 2)⟩,
  ⟨rfl, trivial⟩,
  ⟨rfl, trivial⟩,
  ⟨rfl, 2, _, rfl, ⟨okg_of 142 hG gl_c142, hG _ gl_52, hG _ gl_1094, ⟨by decide +kernel, by decide +kernel, by decide +kernel⟩, by decide +kernel⟩, hG _ gl_1095, rfl, hG _ gl_1096⟩,
  ⟨rfl, (by decide : ((608 : Nat) : Int) + 276 = ((884 : Nat) : Int))⟩,
  ⟨rfl, (by decide : Int32.ofInt 0 = 0)⟩,
  ⟨rfl, Or.inl ⟨rfl, rfl⟩⟩,
  ⟨rfl, trivial⟩,
  ⟨rfl, trivial⟩,
  ⟨rfl, trivial⟩,
  ⟨rfl, (by decide : Int32.ofInt 1 = 1)⟩,
  ⟨rfl, trivial⟩,
  ⟨rfl, trivial⟩,
  ⟨rfl, trivial⟩,
  ⟨rfl, trivial⟩,
  ⟨rfl, (by decide : Int32.ofInt 2 = 2)⟩,
  ⟨rfl, trivial⟩,
  ⟨rfl, trivial⟩,
  ⟨rfl, trivial⟩,
  ⟨rfl, trivial⟩,
  ⟨rfl, (by decide : Int32.ofInt 3 = 3)⟩,
  ⟨rfl, trivial⟩,
  ⟨rfl, trivial⟩,
  ⟨rfl, 3, _, rfl, ⟨okg_of 79 hG gl_c79, hG _ gl_45, hG _ gl_317, ⟨by decide +kernel, by decide +kernel, by decide +kernel⟩, by decide +kernel⟩, hG _ gl_318, rfl, hG _ gl_319⟩,
  ⟨rfl, trivial⟩,
  ⟨rfl, trivial⟩,
  ⟨rfl, trivial⟩,
  ⟨rfl, (by decide : Int32.ofInt 1 = 1)⟩,
  ⟨rfl, trivial⟩,
  ⟨rfl, trivial⟩,
  ⟨rfl, trivial⟩,
  ⟨rfl, trivial⟩,
  ⟨rfl, (by decide : Int32.ofInt 2 = 2)⟩,
  ⟨rfl, trivial⟩,
  ⟨rfl, trivial⟩,
  ⟨rfl, trivial⟩,
  ⟨rfl, trivial⟩,
  ⟨rfl, (by decide : Int32.ofInt 3 = 3)⟩,
  ⟨rfl, trivial⟩,
  ⟨rfl, trivial⟩,
  ⟨rfl, 3, _, rfl, ⟨okg_of 144 hG gl_c144, hG _ gl_52, hG _ gl_1098, ⟨by decide +kernel, by decide +kernel, by decide +kernel⟩, by decide +kernel⟩, hG _ gl_1099, rfl, hG _ gl_1100⟩,
  ⟨rfl, (by decide : ((657 : Nat) : Int) + 227 = ((884 : Nat) : Int))⟩,
  ⟨rfl, (by decide : Int32.ofInt 0 = 0)⟩,
  ⟨rfl, Or.inl ⟨rfl, rfl⟩⟩,
  ⟨rfl, trivial⟩,
  ⟨rfl, trivial⟩,
  ⟨rfl, trivial⟩,
  ⟨rfl, (by decide : Int32.ofInt 1 = 1)⟩,
  ⟨rfl, trivial⟩,
  ⟨rfl, trivial⟩,
  ⟨rfl, trivial⟩,
  ⟨rfl, trivial⟩,
  ⟨rfl, (by decide : Int32.ofInt 2 = 2)⟩,
  ⟨rfl, trivial⟩,
  ⟨rfl, trivial⟩,
  ⟨rfl, trivial⟩,
  ⟨rfl, trivial⟩,
  ⟨rfl, (by decide : Int32.ofInt 3 = 3)⟩,
  ⟨rfl, trivial⟩,
  ⟨rfl, trivial⟩,
  ⟨rfl, 3, _, rfl, ⟨okg_of 80 hG gl_c80, hG _ gl_45, hG _ gl_333, ⟨by decide +kernel, by decide +kernel, by decide +kernel⟩, by decide +kernel⟩, hG _ gl_334, rfl, hG _ gl_335⟩,
  ⟨rfl, trivial⟩,
  ⟨rfl, trivial⟩,
  ⟨rfl, trivial⟩,
  ⟨rfl, (by decide : Int32.ofInt 1 = 1)⟩,
  ⟨rfl, trivial⟩,
  ⟨rfl, trivial⟩,
  ⟨rfl, trivial⟩,
  ⟨rfl, trivial⟩,
  ⟨rfl, (by decide : Int32.ofInt 2 = 2)⟩,
  ⟨rfl, trivial⟩,
  ⟨rfl, trivial⟩,
  ⟨rfl, trivial⟩,
  ⟨rfl, trivial⟩,
  ⟨rfl, (by decide : Int32.ofInt 3 = 3)⟩,
  ⟨rfl, trivial⟩,
  ⟨rfl, trivial⟩,
  ⟨rfl, 3, _, rfl, ⟨okg_of 145 hG gl_c145, hG _ gl_52, hG _ gl_1106, ⟨by decide +kernel, by decide +kernel, by decide +kernel⟩, by decide +kernel⟩, hG _ gl_1107, rfl, hG _ gl_1108⟩,
  ⟨rfl, (by decide : ((706 : Nat) : Int) + 178 = ((884 : Nat) : Int))⟩,
  ⟨rfl, (by decide : Int32.ofInt 0 = 0)⟩,
  ⟨rfl, Or.inl ⟨rfl, rfl⟩⟩,
  ⟨rfl, trivial⟩,
  ⟨rfl, trivial⟩,
  ⟨rfl, trivial⟩,
  ⟨rfl, (by decide : Int32.ofInt 1 = 1)⟩,
  ⟨rfl, trivial⟩,
  ⟨rfl, trivial⟩,
  ⟨rfl, trivial⟩,
  ⟨rfl, trivial⟩,
  ⟨rfl, (by decide : Int32.ofInt 2 = 2)⟩,
  ⟨rfl, trivial⟩,
  ⟨rfl, trivial⟩,
  ⟨rfl, 2, _, rfl, ⟨okg_of 81 hG gl_c81, hG _ gl_45, hG _ gl_341, ⟨by decide +kernel, by decide +kernel, by decide +kernel⟩, by decide +kernel⟩, hG _ gl_342, rfl, hG _ gl_343⟩,
  ⟨rfl, trivial⟩,
  ⟨rfl, trivial⟩,
  ⟨rfl, trivial⟩,
  ⟨rfl, (by decide : Int32.ofInt 1 = 1)⟩,
  ⟨rfl, trivial⟩,
  ⟨rfl, trivial⟩,
  ⟨rfl, trivial⟩,
  ⟨rfl, trivial⟩,
  ⟨rfl, (by decide : Int32.ofInt 2 = 2)⟩,
  ⟨rfl, trivial⟩,
  ⟨rfl, trivial⟩,
  ⟨rfl, 2, _, rfl, ⟨okg_of 146 hG gl_c146, hG _ gl_52, hG _ gl_1110, ⟨by decide +kernel, by decide +kernel, by decide +kernel⟩, by decide +kernel⟩, hG _ gl_1111, rfl, hG _ gl_1112⟩,
  ⟨rfl, (by decide : ((743 : Nat) : Int) + 141 = ((884 : Nat) : Int))⟩,
  ⟨rfl, (by decide : Int32.ofInt 0 = 0)⟩,
  ⟨rfl, Or.inl ⟨rfl, rfl⟩⟩,
  ⟨rfl, trivial⟩,
  ⟨rfl, trivial⟩,
  ⟨rfl, trivial⟩,
  ⟨rfl, (by decide : Int32.ofInt 1 = 1)⟩,
  ⟨rfl, trivial⟩,
  ⟨rfl, trivial⟩,
  ⟨rfl, trivial⟩,
  ⟨rfl, trivial⟩,
  ⟨rfl, (by decide : Int32.ofInt 2 = 2)⟩,
  ⟨rfl, trivial⟩,
  ⟨rfl, trivial⟩,
  ⟨rfl, 2, _, rfl, ⟨okg_of 82 hG gl_c82, hG _ gl_45, hG _ gl_364, ⟨by decide +kernel, by decide +kernel, by decide +kernel⟩, by decide +kernel⟩, hG _ gl_365, rfl, hG _ gl_366⟩,
  ⟨rfl, trivial⟩,
  ⟨rfl, trivial⟩,
  ⟨rfl, trivial⟩,
  ⟨rfl, (by decide : Int32.ofInt 1 = 1)⟩,
  ⟨rfl, trivial⟩,
  ⟨rfl, trivial⟩,
  ⟨rfl, trivial⟩,
  ⟨rfl, trivial⟩,
  ⟨rfl, (by decide : Int32.ofInt 2 = 2)⟩,
  ⟨rfl, trivial⟩,
  ⟨rfl, trivial⟩,
  ⟨rfl, 2, _, rfl, ⟨okg_of 147 hG gl_c147, hG _ gl_52, hG _ gl_1114, ⟨by decide +kernel, by decide +kernel, by decide +kernel⟩, by decide +kernel⟩, hG _ gl_1115, rfl, hG _ gl_1116⟩,
  ⟨rfl, (by decide : ((780 : Nat) : Int) + 104 = ((884 : Nat) : Int))⟩,
  ⟨rfl, (by decide : Int32.ofInt 0 = 0)⟩,
  ⟨rfl, Or.inl ⟨rfl, rfl⟩⟩,
  ⟨rfl, trivial⟩,
  ⟨rfl, trivial⟩,
  ⟨rfl, trivial⟩,
  ⟨rfl, (by decide : Int32.ofInt 1 = 1)⟩,
  ⟨rfl, trivial⟩,
  ⟨rfl, trivial⟩,
  ⟨rfl, trivial⟩,
  ⟨rfl, trivial⟩,
  ⟨rfl, (by decide : Int32.ofInt 2 = 2)⟩,
  ⟨rfl, trivial⟩,
  ⟨rfl, trivial⟩,
  ⟨rfl, 2, _, rfl, ⟨okg_of 83 hG gl_c83, hG _ gl_45, hG _ gl_376, ⟨by decide +kernel, by decide +kernel, by decide +kernel⟩, by decide +kernel⟩, hG _ gl_377, rfl, hG _ gl_378⟩,
  ⟨rfl, trivial⟩,
  ⟨rfl, trivial⟩,
  ⟨rfl, trivial⟩,
  ⟨rfl, (by decide : Int32.ofInt 1 = 1)⟩,
  ⟨rfl, trivial⟩,
  ⟨rfl, trivial⟩,
  ⟨rfl, trivial⟩,
  ⟨rfl, trivial⟩,
  ⟨rfl, (by decide : Int32.ofInt 2 = 2)⟩,
  ⟨rfl, trivial⟩,
  ⟨rfl, trivial⟩,
  ⟨rfl, 2, _, rfl, ⟨okg_of 148 hG gl_c148, hG _ gl_52, hG _ gl_1118, ⟨by decide +kernel, by decide +kernel, by decide +kernel⟩, by decide +kernel⟩, hG _ gl_1119, rfl, hG _ gl_1120⟩,
  ⟨rfl, (by decide : ((817 : Nat) : Int) + 67 = ((884 : Nat) : Int))⟩,
  ⟨rfl, (by decide : Int32.ofInt 0 = 0)⟩,
  ⟨rfl, Or.inl ⟨rfl, rfl⟩⟩,
  ⟨rfl, trivial⟩,
  ⟨rfl, trivial⟩,
  ⟨rfl, trivial⟩,
  ⟨rfl, (by decide : Int32.ofInt 1 = 1)⟩,
  ⟨rfl, trivial⟩,
  ⟨rfl, trivial⟩,
  ⟨rfl, trivial⟩,
  ⟨rfl, trivial⟩,
  ⟨rfl, (by decide : Int32.ofInt 2 = 2)⟩,
  ⟨rfl, trivial⟩,
  ⟨rfl, trivial⟩,
  ⟨rfl, 2, _, rfl, ⟨okg_of 84 hG gl_c84, hG _ gl_45, hG _ gl_388, ⟨by decide +kernel, by decide +kernel, by decide +kernel⟩, by decide +kernel⟩, hG _ gl_389, rfl, hG _ gl_390⟩,
  ⟨rfl, trivial⟩,
  ⟨rfl, trivial⟩,
  ⟨rfl, trivial⟩,
  ⟨rfl, (by decide : Int32.ofInt 1 = 1)⟩,
  ⟨rfl, trivial⟩,
  ⟨rfl, trivial⟩,
  ⟨rfl, trivial⟩,
  ⟨rfl, trivial⟩,
  ⟨rfl, (by decide : Int32.ofInt 2 = 2)⟩,
  ⟨rfl, trivial⟩,
  ⟨rfl, trivial⟩,
  ⟨rfl, 2, _, rfl, ⟨okg_of 149 hG gl_c149, hG _ gl_52, hG _ gl_1122, ⟨by decide +kernel, by decide +kernel, by decide +kernel⟩, by decide +kernel⟩, hG _ gl_1123, rfl, hG _ gl_1124⟩,
  ⟨rfl, (by decide : ((854 : Nat) : Int) + 30 = ((884 : Nat) : Int))⟩,
  ⟨rfl, (by decide : Int32.ofInt 0 = 0)⟩,
  ⟨rfl, Or.inl ⟨rfl, rfl⟩⟩,
  ⟨rfl, trivial⟩,
  ⟨rfl, trivial⟩,
  ⟨rfl, trivial⟩,
  ⟨rfl, (by decide : Int32.ofInt 1 = 1)⟩,
  ⟨rfl, trivial⟩,
  ⟨rfl, trivial⟩,
  ⟨rfl, 1, _, rfl, ⟨okg_of 85 hG gl_c85, hG _ gl_45, hG _ gl_396, ⟨by decide +kernel, by decide +kernel, by decide +kernel⟩, by decide +kernel⟩, hG _ gl_397, rfl, hG _ gl_398⟩,
  ⟨rfl, trivial⟩,
  ⟨rfl, trivial⟩,
  ⟨rfl, trivial⟩,
  ⟨rfl, (by decide : Int32.ofInt 1 = 1)⟩,
  ⟨rfl, trivial⟩,
  ⟨rfl, trivial⟩,
  ⟨rfl, 1, _, rfl, ⟨okg_of 150 hG gl_c150, hG _ gl_52, hG _ gl_1126, ⟨by decide +kernel, by decide +kernel, by decide +kernel⟩, by decide +kernel⟩, hG _ gl_1127, rfl, hG _ gl_1128⟩,
  ⟨rfl, (by decide : ((879 : Nat) : Int) + 5 = ((884 : Nat) : Int))⟩,
  ⟨rfl, (by decide : Int32.ofInt 0 = 0)⟩,
  ⟨rfl, Or.inl ⟨rfl, rfl⟩⟩,
  ⟨rfl, (by decide : 4 < 7), (by decide : Int32.ofInt 6 = 6)⟩,
  ⟨rfl, (by decide : ((887 : Nat) : Int) + (-864) = ((23 : Nat) : Int))⟩,
  ⟨rfl, (by decide : Int32.ofInt 1 = 1)⟩,
  ⟨rfl, Or.inl ⟨rfl, rfl⟩⟩, trivial⟩
