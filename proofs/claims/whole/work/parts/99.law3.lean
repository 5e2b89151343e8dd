/-! THE LAW's wrappers (printed by gen/emit2.py) -/
theorem w_0 : (Jvm.Cond.initialized "CardRightsLaw") ∈ lw_tbl := List.mem_of_getElem? (i := 42) (by decide +kernel)
theorem w_27 : (Jvm.Cond.classLink "CardRightsLaw" (8 : Nat) "CardRights") ∈ lw_tbl := List.mem_of_getElem? (i := 69) (by decide +kernel)
theorem w_28 : (Jvm.Cond.instantiable "CardRights" (10 : Nat)) ∈ lw_tbl := List.mem_of_getElem? (i := 70) (by decide +kernel)
theorem w_29 : (Jvm.Cond.methodLink "CardRightsLaw" (72 : Nat) ({ cls := "CardRights", name := "<init>", desc := "()V" } : Jvm.MethodName)) ∈ lw_tbl := List.mem_of_getElem? (i := 71) (by decide +kernel)
theorem w_30 : (Jvm.Cond.instanceMethod ({ cls := "CardRights", name := "<init>", desc := "()V" } : Jvm.MethodName)) ∈ lw_tbl := List.mem_of_getElem? (i := 72) (by decide +kernel)
theorem w_167 : (Jvm.Cond.methodLink "CardRightsLaw" (137 : Nat) ({ cls := "CardRights", name := "against", desc := "()I" } : Jvm.MethodName)) ∈ lw_tbl := List.mem_of_getElem? (i := 209) (by decide +kernel)
theorem w_168 : (Jvm.Cond.instanceMethod ({ cls := "CardRights", name := "against", desc := "()I" } : Jvm.MethodName)) ∈ lw_tbl := List.mem_of_getElem? (i := 210) (by decide +kernel)
theorem w_169 : (Jvm.Cond.selects "CardRights" ({ cls := "CardRights", name := "against", desc := "()I" } : Jvm.MethodName) ({ cls := "CardRights", name := "against", desc := "()I" } : Jvm.MethodName)) ∈ lw_tbl := List.mem_of_getElem? (i := 211) (by decide +kernel)
theorem w_171 : (Jvm.Cond.methodLink "CardRightsLaw" (144 : Nat) ({ cls := "CardRights", name := "uses", desc := "()I" } : Jvm.MethodName)) ∈ lw_tbl := List.mem_of_getElem? (i := 213) (by decide +kernel)
theorem w_172 : (Jvm.Cond.instanceMethod ({ cls := "CardRights", name := "uses", desc := "()I" } : Jvm.MethodName)) ∈ lw_tbl := List.mem_of_getElem? (i := 214) (by decide +kernel)
theorem w_173 : (Jvm.Cond.selects "CardRights" ({ cls := "CardRights", name := "uses", desc := "()I" } : Jvm.MethodName) ({ cls := "CardRights", name := "uses", desc := "()I" } : Jvm.MethodName)) ∈ lw_tbl := List.mem_of_getElem? (i := 215) (by decide +kernel)
theorem w_175 : (Jvm.Cond.methodLink "CardRightsLaw" (148 : Nat) ({ cls := "CardRights", name := "fewest", desc := "()I" } : Jvm.MethodName)) ∈ lw_tbl := List.mem_of_getElem? (i := 217) (by decide +kernel)
theorem w_176 : (Jvm.Cond.instanceMethod ({ cls := "CardRights", name := "fewest", desc := "()I" } : Jvm.MethodName)) ∈ lw_tbl := List.mem_of_getElem? (i := 218) (by decide +kernel)
theorem w_177 : (Jvm.Cond.selects "CardRights" ({ cls := "CardRights", name := "fewest", desc := "()I" } : Jvm.MethodName) ({ cls := "CardRights", name := "fewest", desc := "()I" } : Jvm.MethodName)) ∈ lw_tbl := List.mem_of_getElem? (i := 219) (by decide +kernel)
theorem w_251 : (Jvm.Cond.methodLink "CardRightsLaw" (152 : Nat) ({ cls := "CardRights", name := "now", desc := "()I" } : Jvm.MethodName)) ∈ lw_tbl := List.mem_of_getElem? (i := 293) (by decide +kernel)
theorem w_252 : (Jvm.Cond.instanceMethod ({ cls := "CardRights", name := "now", desc := "()I" } : Jvm.MethodName)) ∈ lw_tbl := List.mem_of_getElem? (i := 294) (by decide +kernel)
theorem w_253 : (Jvm.Cond.selects "CardRights" ({ cls := "CardRights", name := "now", desc := "()I" } : Jvm.MethodName) ({ cls := "CardRights", name := "now", desc := "()I" } : Jvm.MethodName)) ∈ lw_tbl := List.mem_of_getElem? (i := 295) (by decide +kernel)
theorem w_255 : (Jvm.Cond.methodLink "CardRightsLaw" (76 : Nat) ({ cls := "CardRightsLaw", name := "room", desc := "(LCardRights;I[J)I" } : Jvm.MethodName)) ∈ lw_tbl := List.mem_of_getElem? (i := 297) (by decide +kernel)
theorem w_256 : (Jvm.Cond.static ({ cls := "CardRightsLaw", name := "room", desc := "(LCardRights;I[J)I" } : Jvm.MethodName)) ∈ lw_tbl := List.mem_of_getElem? (i := 298) (by decide +kernel)
theorem w_257 : (Jvm.Cond.codeWith ({ cls := "CardRightsLaw", name := "room", desc := "(LCardRights;I[J)I" } : Jvm.MethodName) method_3_code (4 : Nat) (Option.some FieldType.int) [((0 : Nat), (9 : Nat), (12 : Nat), (13 : Nat)), ((0 : Nat), (9 : Nat), (15 : Nat), (15 : Nat))]) ∈ lw_tbl := List.mem_of_getElem? (i := 299) (by decide +kernel)
theorem w_258 : (Jvm.Cond.classLink "CardRightsLaw" (13 : Nat) "java/lang/IllegalArgumentException") ∈ lw_tbl := List.mem_of_getElem? (i := 300) (by decide +kernel)
theorem w_259 : (Jvm.Cond.classLink "CardRightsLaw" (15 : Nat) "java/lang/IllegalStateException") ∈ lw_tbl := List.mem_of_getElem? (i := 301) (by decide +kernel)
theorem w_260 : (Jvm.Cond.methodLink "CardRightsLaw" (7 : Nat) ({ cls := "CardRights", name := "room", desc := "(I)I" } : Jvm.MethodName)) ∈ lw_tbl := List.mem_of_getElem? (i := 302) (by decide +kernel)
theorem w_261 : (Jvm.Cond.instanceMethod ({ cls := "CardRights", name := "room", desc := "(I)I" } : Jvm.MethodName)) ∈ lw_tbl := List.mem_of_getElem? (i := 303) (by decide +kernel)
theorem w_262 : (Jvm.Cond.selects "CardRights" ({ cls := "CardRights", name := "room", desc := "(I)I" } : Jvm.MethodName) ({ cls := "CardRights", name := "room", desc := "(I)I" } : Jvm.MethodName)) ∈ lw_tbl := List.mem_of_getElem? (i := 304) (by decide +kernel)
theorem w_269 : (Jvm.Cond.castable "java/lang/IllegalArgumentException" "java/lang/IllegalArgumentException") ∈ lw_tbl := List.mem_of_getElem? (i := 311) (by decide +kernel)
theorem w_336 : (Jvm.Cond.castable "java/lang/IllegalStateException" "java/lang/IllegalStateException") ∈ lw_tbl := List.mem_of_getElem? (i := 378) (by decide +kernel)
theorem w_432 : (Jvm.Cond.methodLink "CardRightsLaw" (86 : Nat) ({ cls := "CardRightsLaw", name := "door", desc := "(LCardRights;II[J)I" } : Jvm.MethodName)) ∈ lw_tbl := List.mem_of_getElem? (i := 474) (by decide +kernel)
theorem w_433 : (Jvm.Cond.static ({ cls := "CardRightsLaw", name := "door", desc := "(LCardRights;II[J)I" } : Jvm.MethodName)) ∈ lw_tbl := List.mem_of_getElem? (i := 475) (by decide +kernel)
theorem w_434 : (Jvm.Cond.codeWith ({ cls := "CardRightsLaw", name := "door", desc := "(LCardRights;II[J)I" } : Jvm.MethodName) method_4_code (5 : Nat) (Option.some FieldType.int) [((0 : Nat), (10 : Nat), (13 : Nat), (13 : Nat)), ((0 : Nat), (10 : Nat), (17 : Nat), (15 : Nat))]) ∈ lw_tbl := List.mem_of_getElem? (i := 476) (by decide +kernel)
theorem w_435 : (Jvm.Cond.methodLink "CardRightsLaw" (17 : Nat) ({ cls := "CardRights", name := "door", desc := "(II)I" } : Jvm.MethodName)) ∈ lw_tbl := List.mem_of_getElem? (i := 477) (by decide +kernel)
theorem w_436 : (Jvm.Cond.instanceMethod ({ cls := "CardRights", name := "door", desc := "(II)I" } : Jvm.MethodName)) ∈ lw_tbl := List.mem_of_getElem? (i := 478) (by decide +kernel)
theorem w_437 : (Jvm.Cond.selects "CardRights" ({ cls := "CardRights", name := "door", desc := "(II)I" } : Jvm.MethodName) ({ cls := "CardRights", name := "door", desc := "(II)I" } : Jvm.MethodName)) ∈ lw_tbl := List.mem_of_getElem? (i := 479) (by decide +kernel)
theorem w_496 : (Jvm.Cond.methodLink "CardRightsLaw" (90 : Nat) ({ cls := "CardRightsLaw", name := "person", desc := "(LCardRights;I[J)I" } : Jvm.MethodName)) ∈ lw_tbl := List.mem_of_getElem? (i := 538) (by decide +kernel)
theorem w_497 : (Jvm.Cond.static ({ cls := "CardRightsLaw", name := "person", desc := "(LCardRights;I[J)I" } : Jvm.MethodName)) ∈ lw_tbl := List.mem_of_getElem? (i := 539) (by decide +kernel)
theorem w_498 : (Jvm.Cond.codeWith ({ cls := "CardRightsLaw", name := "person", desc := "(LCardRights;I[J)I" } : Jvm.MethodName) method_5_code (4 : Nat) (Option.some FieldType.int) [((0 : Nat), (9 : Nat), (12 : Nat), (13 : Nat)), ((0 : Nat), (9 : Nat), (15 : Nat), (15 : Nat))]) ∈ lw_tbl := List.mem_of_getElem? (i := 540) (by decide +kernel)
theorem w_499 : (Jvm.Cond.methodLink "CardRightsLaw" (21 : Nat) ({ cls := "CardRights", name := "person", desc := "(I)I" } : Jvm.MethodName)) ∈ lw_tbl := List.mem_of_getElem? (i := 541) (by decide +kernel)
theorem w_500 : (Jvm.Cond.instanceMethod ({ cls := "CardRights", name := "person", desc := "(I)I" } : Jvm.MethodName)) ∈ lw_tbl := List.mem_of_getElem? (i := 542) (by decide +kernel)
theorem w_501 : (Jvm.Cond.selects "CardRights" ({ cls := "CardRights", name := "person", desc := "(I)I" } : Jvm.MethodName) ({ cls := "CardRights", name := "person", desc := "(I)I" } : Jvm.MethodName)) ∈ lw_tbl := List.mem_of_getElem? (i := 543) (by decide +kernel)
theorem w_533 : (Jvm.Cond.methodLink "CardRightsLaw" (93 : Nat) ({ cls := "CardRightsLaw", name := "card", desc := "(LCardRights;II[J)I" } : Jvm.MethodName)) ∈ lw_tbl := List.mem_of_getElem? (i := 575) (by decide +kernel)
theorem w_534 : (Jvm.Cond.static ({ cls := "CardRightsLaw", name := "card", desc := "(LCardRights;II[J)I" } : Jvm.MethodName)) ∈ lw_tbl := List.mem_of_getElem? (i := 576) (by decide +kernel)
theorem w_535 : (Jvm.Cond.codeWith ({ cls := "CardRightsLaw", name := "card", desc := "(LCardRights;II[J)I" } : Jvm.MethodName) method_6_code (5 : Nat) (Option.some FieldType.int) [((0 : Nat), (10 : Nat), (13 : Nat), (13 : Nat)), ((0 : Nat), (10 : Nat), (17 : Nat), (15 : Nat))]) ∈ lw_tbl := List.mem_of_getElem? (i := 577) (by decide +kernel)
theorem w_536 : (Jvm.Cond.methodLink "CardRightsLaw" (24 : Nat) ({ cls := "CardRights", name := "card", desc := "(II)I" } : Jvm.MethodName)) ∈ lw_tbl := List.mem_of_getElem? (i := 578) (by decide +kernel)
theorem w_537 : (Jvm.Cond.instanceMethod ({ cls := "CardRights", name := "card", desc := "(II)I" } : Jvm.MethodName)) ∈ lw_tbl := List.mem_of_getElem? (i := 579) (by decide +kernel)
theorem w_538 : (Jvm.Cond.selects "CardRights" ({ cls := "CardRights", name := "card", desc := "(II)I" } : Jvm.MethodName) ({ cls := "CardRights", name := "card", desc := "(II)I" } : Jvm.MethodName)) ∈ lw_tbl := List.mem_of_getElem? (i := 580) (by decide +kernel)
theorem w_570 : (Jvm.Cond.methodLink "CardRightsLaw" (96 : Nat) ({ cls := "CardRightsLaw", name := "right", desc := "(LCardRights;IIIII[J)I" } : Jvm.MethodName)) ∈ lw_tbl := List.mem_of_getElem? (i := 612) (by decide +kernel)
theorem w_571 : (Jvm.Cond.static ({ cls := "CardRightsLaw", name := "right", desc := "(LCardRights;IIIII[J)I" } : Jvm.MethodName)) ∈ lw_tbl := List.mem_of_getElem? (i := 613) (by decide +kernel)
theorem w_572 : (Jvm.Cond.codeWith ({ cls := "CardRightsLaw", name := "right", desc := "(LCardRights;IIIII[J)I" } : Jvm.MethodName) method_7_code (8 : Nat) (Option.some FieldType.int) [((0 : Nat), (16 : Nat), (19 : Nat), (13 : Nat)), ((0 : Nat), (16 : Nat), (23 : Nat), (15 : Nat))]) ∈ lw_tbl := List.mem_of_getElem? (i := 614) (by decide +kernel)
theorem w_573 : (Jvm.Cond.methodLink "CardRightsLaw" (27 : Nat) ({ cls := "CardRights", name := "right", desc := "(IIIII)I" } : Jvm.MethodName)) ∈ lw_tbl := List.mem_of_getElem? (i := 615) (by decide +kernel)
theorem w_574 : (Jvm.Cond.instanceMethod ({ cls := "CardRights", name := "right", desc := "(IIIII)I" } : Jvm.MethodName)) ∈ lw_tbl := List.mem_of_getElem? (i := 616) (by decide +kernel)
theorem w_575 : (Jvm.Cond.selects "CardRights" ({ cls := "CardRights", name := "right", desc := "(IIIII)I" } : Jvm.MethodName) ({ cls := "CardRights", name := "right", desc := "(IIIII)I" } : Jvm.MethodName)) ∈ lw_tbl := List.mem_of_getElem? (i := 617) (by decide +kernel)
theorem w_603 : (Jvm.Cond.methodLink "CardRightsLaw" (100 : Nat) ({ cls := "CardRightsLaw", name := "end", desc := "(LCardRights;II[J)I" } : Jvm.MethodName)) ∈ lw_tbl := List.mem_of_getElem? (i := 645) (by decide +kernel)
theorem w_604 : (Jvm.Cond.static ({ cls := "CardRightsLaw", name := "end", desc := "(LCardRights;II[J)I" } : Jvm.MethodName)) ∈ lw_tbl := List.mem_of_getElem? (i := 646) (by decide +kernel)
theorem w_605 : (Jvm.Cond.codeWith ({ cls := "CardRightsLaw", name := "end", desc := "(LCardRights;II[J)I" } : Jvm.MethodName) method_8_code (5 : Nat) (Option.some FieldType.int) [((0 : Nat), (10 : Nat), (13 : Nat), (13 : Nat))]) ∈ lw_tbl := List.mem_of_getElem? (i := 647) (by decide +kernel)
theorem w_606 : (Jvm.Cond.methodLink "CardRightsLaw" (31 : Nat) ({ cls := "CardRights", name := "end", desc := "(II)I" } : Jvm.MethodName)) ∈ lw_tbl := List.mem_of_getElem? (i := 648) (by decide +kernel)
theorem w_607 : (Jvm.Cond.instanceMethod ({ cls := "CardRights", name := "end", desc := "(II)I" } : Jvm.MethodName)) ∈ lw_tbl := List.mem_of_getElem? (i := 649) (by decide +kernel)
theorem w_608 : (Jvm.Cond.selects "CardRights" ({ cls := "CardRights", name := "end", desc := "(II)I" } : Jvm.MethodName) ({ cls := "CardRights", name := "end", desc := "(II)I" } : Jvm.MethodName)) ∈ lw_tbl := List.mem_of_getElem? (i := 650) (by decide +kernel)
theorem w_611 : (Jvm.Cond.methodLink "CardRightsLaw" (103 : Nat) ({ cls := "CardRightsLaw", name := "lost", desc := "(LCardRights;II[J)I" } : Jvm.MethodName)) ∈ lw_tbl := List.mem_of_getElem? (i := 653) (by decide +kernel)
theorem w_612 : (Jvm.Cond.static ({ cls := "CardRightsLaw", name := "lost", desc := "(LCardRights;II[J)I" } : Jvm.MethodName)) ∈ lw_tbl := List.mem_of_getElem? (i := 654) (by decide +kernel)
theorem w_613 : (Jvm.Cond.codeWith ({ cls := "CardRightsLaw", name := "lost", desc := "(LCardRights;II[J)I" } : Jvm.MethodName) method_9_code (5 : Nat) (Option.some FieldType.int) [((0 : Nat), (10 : Nat), (13 : Nat), (13 : Nat))]) ∈ lw_tbl := List.mem_of_getElem? (i := 655) (by decide +kernel)
theorem w_614 : (Jvm.Cond.methodLink "CardRightsLaw" (34 : Nat) ({ cls := "CardRights", name := "lost", desc := "(II)I" } : Jvm.MethodName)) ∈ lw_tbl := List.mem_of_getElem? (i := 656) (by decide +kernel)
theorem w_615 : (Jvm.Cond.instanceMethod ({ cls := "CardRights", name := "lost", desc := "(II)I" } : Jvm.MethodName)) ∈ lw_tbl := List.mem_of_getElem? (i := 657) (by decide +kernel)
theorem w_616 : (Jvm.Cond.selects "CardRights" ({ cls := "CardRights", name := "lost", desc := "(II)I" } : Jvm.MethodName) ({ cls := "CardRights", name := "lost", desc := "(II)I" } : Jvm.MethodName)) ∈ lw_tbl := List.mem_of_getElem? (i := 658) (by decide +kernel)
theorem w_623 : (Jvm.Cond.methodLink "CardRightsLaw" (106 : Nat) ({ cls := "CardRightsLaw", name := "two", desc := "(LCardRights;IZ[J)I" } : Jvm.MethodName)) ∈ lw_tbl := List.mem_of_getElem? (i := 665) (by decide +kernel)
theorem w_624 : (Jvm.Cond.static ({ cls := "CardRightsLaw", name := "two", desc := "(LCardRights;IZ[J)I" } : Jvm.MethodName)) ∈ lw_tbl := List.mem_of_getElem? (i := 666) (by decide +kernel)
theorem w_625 : (Jvm.Cond.codeWith ({ cls := "CardRightsLaw", name := "two", desc := "(LCardRights;IZ[J)I" } : Jvm.MethodName) method_10_code (5 : Nat) (Option.some FieldType.int) [((0 : Nat), (17 : Nat), (20 : Nat), (13 : Nat))]) ∈ lw_tbl := List.mem_of_getElem? (i := 667) (by decide +kernel)
theorem w_626 : (Jvm.Cond.methodLink "CardRightsLaw" (37 : Nat) ({ cls := "CardRights", name := "two", desc := "(IZ)Z" } : Jvm.MethodName)) ∈ lw_tbl := List.mem_of_getElem? (i := 668) (by decide +kernel)
theorem w_627 : (Jvm.Cond.instanceMethod ({ cls := "CardRights", name := "two", desc := "(IZ)Z" } : Jvm.MethodName)) ∈ lw_tbl := List.mem_of_getElem? (i := 669) (by decide +kernel)
theorem w_628 : (Jvm.Cond.selects "CardRights" ({ cls := "CardRights", name := "two", desc := "(IZ)Z" } : Jvm.MethodName) ({ cls := "CardRights", name := "two", desc := "(IZ)Z" } : Jvm.MethodName)) ∈ lw_tbl := List.mem_of_getElem? (i := 670) (by decide +kernel)
theorem w_635 : (Jvm.Cond.methodLink "CardRightsLaw" (110 : Nat) ({ cls := "CardRightsLaw", name := "airlock", desc := "(LCardRights;IIZ[J)I" } : Jvm.MethodName)) ∈ lw_tbl := List.mem_of_getElem? (i := 677) (by decide +kernel)
theorem w_636 : (Jvm.Cond.static ({ cls := "CardRightsLaw", name := "airlock", desc := "(LCardRights;IIZ[J)I" } : Jvm.MethodName)) ∈ lw_tbl := List.mem_of_getElem? (i := 678) (by decide +kernel)
theorem w_637 : (Jvm.Cond.codeWith ({ cls := "CardRightsLaw", name := "airlock", desc := "(LCardRights;IIZ[J)I" } : Jvm.MethodName) method_11_code (6 : Nat) (Option.some FieldType.int) [((0 : Nat), (19 : Nat), (22 : Nat), (13 : Nat))]) ∈ lw_tbl := List.mem_of_getElem? (i := 679) (by decide +kernel)
theorem w_638 : (Jvm.Cond.methodLink "CardRightsLaw" (41 : Nat) ({ cls := "CardRights", name := "airlock", desc := "(IIZ)Z" } : Jvm.MethodName)) ∈ lw_tbl := List.mem_of_getElem? (i := 680) (by decide +kernel)
theorem w_639 : (Jvm.Cond.instanceMethod ({ cls := "CardRights", name := "airlock", desc := "(IIZ)Z" } : Jvm.MethodName)) ∈ lw_tbl := List.mem_of_getElem? (i := 681) (by decide +kernel)
theorem w_640 : (Jvm.Cond.selects "CardRights" ({ cls := "CardRights", name := "airlock", desc := "(IIZ)Z" } : Jvm.MethodName) ({ cls := "CardRights", name := "airlock", desc := "(IIZ)Z" } : Jvm.MethodName)) ∈ lw_tbl := List.mem_of_getElem? (i := 682) (by decide +kernel)
theorem w_651 : (Jvm.Cond.methodLink "CardRightsLaw" (114 : Nat) ({ cls := "CardRightsLaw", name := "state", desc := "(LCardRights;IZI[J)I" } : Jvm.MethodName)) ∈ lw_tbl := List.mem_of_getElem? (i := 693) (by decide +kernel)
theorem w_652 : (Jvm.Cond.static ({ cls := "CardRightsLaw", name := "state", desc := "(LCardRights;IZI[J)I" } : Jvm.MethodName)) ∈ lw_tbl := List.mem_of_getElem? (i := 694) (by decide +kernel)
theorem w_653 : (Jvm.Cond.codeWith ({ cls := "CardRightsLaw", name := "state", desc := "(LCardRights;IZI[J)I" } : Jvm.MethodName) method_12_code (6 : Nat) (Option.some FieldType.int) [((0 : Nat), (12 : Nat), (15 : Nat), (13 : Nat))]) ∈ lw_tbl := List.mem_of_getElem? (i := 695) (by decide +kernel)
theorem w_654 : (Jvm.Cond.methodLink "CardRightsLaw" (45 : Nat) ({ cls := "CardRights", name := "state", desc := "(IZI)I" } : Jvm.MethodName)) ∈ lw_tbl := List.mem_of_getElem? (i := 696) (by decide +kernel)
theorem w_655 : (Jvm.Cond.instanceMethod ({ cls := "CardRights", name := "state", desc := "(IZI)I" } : Jvm.MethodName)) ∈ lw_tbl := List.mem_of_getElem? (i := 697) (by decide +kernel)
theorem w_656 : (Jvm.Cond.selects "CardRights" ({ cls := "CardRights", name := "state", desc := "(IZI)I" } : Jvm.MethodName) ({ cls := "CardRights", name := "state", desc := "(IZI)I" } : Jvm.MethodName)) ∈ lw_tbl := List.mem_of_getElem? (i := 698) (by decide +kernel)
theorem w_663 : (Jvm.Cond.methodLink "CardRightsLaw" (118 : Nat) ({ cls := "CardRightsLaw", name := "off", desc := "(LCardRights;IZ[J)I" } : Jvm.MethodName)) ∈ lw_tbl := List.mem_of_getElem? (i := 705) (by decide +kernel)
theorem w_664 : (Jvm.Cond.static ({ cls := "CardRightsLaw", name := "off", desc := "(LCardRights;IZ[J)I" } : Jvm.MethodName)) ∈ lw_tbl := List.mem_of_getElem? (i := 706) (by decide +kernel)
theorem w_665 : (Jvm.Cond.codeWith ({ cls := "CardRightsLaw", name := "off", desc := "(LCardRights;IZ[J)I" } : Jvm.MethodName) method_13_code (5 : Nat) (Option.some FieldType.int) [((0 : Nat), (10 : Nat), (13 : Nat), (13 : Nat))]) ∈ lw_tbl := List.mem_of_getElem? (i := 707) (by decide +kernel)
theorem w_666 : (Jvm.Cond.methodLink "CardRightsLaw" (49 : Nat) ({ cls := "CardRights", name := "off", desc := "(IZ)I" } : Jvm.MethodName)) ∈ lw_tbl := List.mem_of_getElem? (i := 708) (by decide +kernel)
theorem w_667 : (Jvm.Cond.instanceMethod ({ cls := "CardRights", name := "off", desc := "(IZ)I" } : Jvm.MethodName)) ∈ lw_tbl := List.mem_of_getElem? (i := 709) (by decide +kernel)
theorem w_668 : (Jvm.Cond.selects "CardRights" ({ cls := "CardRights", name := "off", desc := "(IZ)I" } : Jvm.MethodName) ({ cls := "CardRights", name := "off", desc := "(IZ)I" } : Jvm.MethodName)) ∈ lw_tbl := List.mem_of_getElem? (i := 710) (by decide +kernel)
theorem w_719 : (Jvm.Cond.methodLink "CardRightsLaw" (121 : Nat) ({ cls := "CardRightsLaw", name := "asks", desc := "(LCardRights;IIII[J)I" } : Jvm.MethodName)) ∈ lw_tbl := List.mem_of_getElem? (i := 761) (by decide +kernel)
theorem w_720 : (Jvm.Cond.static ({ cls := "CardRightsLaw", name := "asks", desc := "(LCardRights;IIII[J)I" } : Jvm.MethodName)) ∈ lw_tbl := List.mem_of_getElem? (i := 762) (by decide +kernel)
theorem w_721 : (Jvm.Cond.codeWith ({ cls := "CardRightsLaw", name := "asks", desc := "(LCardRights;IIII[J)I" } : Jvm.MethodName) method_14_code (7 : Nat) (Option.some FieldType.int) [((0 : Nat), (14 : Nat), (17 : Nat), (13 : Nat)), ((0 : Nat), (14 : Nat), (21 : Nat), (15 : Nat))]) ∈ lw_tbl := List.mem_of_getElem? (i := 763) (by decide +kernel)
theorem w_722 : (Jvm.Cond.methodLink "CardRightsLaw" (53 : Nat) ({ cls := "CardRights", name := "asks", desc := "(IIII)I" } : Jvm.MethodName)) ∈ lw_tbl := List.mem_of_getElem? (i := 764) (by decide +kernel)
theorem w_723 : (Jvm.Cond.instanceMethod ({ cls := "CardRights", name := "asks", desc := "(IIII)I" } : Jvm.MethodName)) ∈ lw_tbl := List.mem_of_getElem? (i := 765) (by decide +kernel)
theorem w_724 : (Jvm.Cond.selects "CardRights" ({ cls := "CardRights", name := "asks", desc := "(IIII)I" } : Jvm.MethodName) ({ cls := "CardRights", name := "asks", desc := "(IIII)I" } : Jvm.MethodName)) ∈ lw_tbl := List.mem_of_getElem? (i := 766) (by decide +kernel)
theorem w_772 : (Jvm.Cond.methodLink "CardRightsLaw" (125 : Nat) ({ cls := "CardRightsLaw", name := "both", desc := "(LCardRights;IIIII[J)I" } : Jvm.MethodName)) ∈ lw_tbl := List.mem_of_getElem? (i := 814) (by decide +kernel)
theorem w_773 : (Jvm.Cond.static ({ cls := "CardRightsLaw", name := "both", desc := "(LCardRights;IIIII[J)I" } : Jvm.MethodName)) ∈ lw_tbl := List.mem_of_getElem? (i := 815) (by decide +kernel)
theorem w_774 : (Jvm.Cond.codeWith ({ cls := "CardRightsLaw", name := "both", desc := "(LCardRights;IIIII[J)I" } : Jvm.MethodName) method_15_code (8 : Nat) (Option.some FieldType.int) [((0 : Nat), (16 : Nat), (19 : Nat), (13 : Nat)), ((0 : Nat), (16 : Nat), (23 : Nat), (15 : Nat))]) ∈ lw_tbl := List.mem_of_getElem? (i := 816) (by decide +kernel)
theorem w_775 : (Jvm.Cond.methodLink "CardRightsLaw" (57 : Nat) ({ cls := "CardRights", name := "both", desc := "(IIIII)I" } : Jvm.MethodName)) ∈ lw_tbl := List.mem_of_getElem? (i := 817) (by decide +kernel)
theorem w_776 : (Jvm.Cond.instanceMethod ({ cls := "CardRights", name := "both", desc := "(IIIII)I" } : Jvm.MethodName)) ∈ lw_tbl := List.mem_of_getElem? (i := 818) (by decide +kernel)
theorem w_777 : (Jvm.Cond.selects "CardRights" ({ cls := "CardRights", name := "both", desc := "(IIIII)I" } : Jvm.MethodName) ({ cls := "CardRights", name := "both", desc := "(IIIII)I" } : Jvm.MethodName)) ∈ lw_tbl := List.mem_of_getElem? (i := 819) (by decide +kernel)
theorem w_780 : (Jvm.Cond.methodLink "CardRightsLaw" (128 : Nat) ({ cls := "CardRightsLaw", name := "where", desc := "(LCardRights;I[J)I" } : Jvm.MethodName)) ∈ lw_tbl := List.mem_of_getElem? (i := 822) (by decide +kernel)
theorem w_781 : (Jvm.Cond.static ({ cls := "CardRightsLaw", name := "where", desc := "(LCardRights;I[J)I" } : Jvm.MethodName)) ∈ lw_tbl := List.mem_of_getElem? (i := 823) (by decide +kernel)
theorem w_782 : (Jvm.Cond.codeWith ({ cls := "CardRightsLaw", name := "where", desc := "(LCardRights;I[J)I" } : Jvm.MethodName) method_16_code (4 : Nat) (Option.some FieldType.int) [((0 : Nat), (9 : Nat), (12 : Nat), (13 : Nat))]) ∈ lw_tbl := List.mem_of_getElem? (i := 824) (by decide +kernel)
theorem w_783 : (Jvm.Cond.methodLink "CardRightsLaw" (60 : Nat) ({ cls := "CardRights", name := "where", desc := "(I)I" } : Jvm.MethodName)) ∈ lw_tbl := List.mem_of_getElem? (i := 825) (by decide +kernel)
theorem w_784 : (Jvm.Cond.instanceMethod ({ cls := "CardRights", name := "where", desc := "(I)I" } : Jvm.MethodName)) ∈ lw_tbl := List.mem_of_getElem? (i := 826) (by decide +kernel)
theorem w_785 : (Jvm.Cond.selects "CardRights" ({ cls := "CardRights", name := "where", desc := "(I)I" } : Jvm.MethodName) ({ cls := "CardRights", name := "where", desc := "(I)I" } : Jvm.MethodName)) ∈ lw_tbl := List.mem_of_getElem? (i := 827) (by decide +kernel)
theorem w_787 : (Jvm.Cond.methodLink "CardRightsLaw" (131 : Nat) ({ cls := "CardRightsLaw", name := "inside", desc := "(LCardRights;I[J)I" } : Jvm.MethodName)) ∈ lw_tbl := List.mem_of_getElem? (i := 829) (by decide +kernel)
theorem w_788 : (Jvm.Cond.static ({ cls := "CardRightsLaw", name := "inside", desc := "(LCardRights;I[J)I" } : Jvm.MethodName)) ∈ lw_tbl := List.mem_of_getElem? (i := 830) (by decide +kernel)
theorem w_789 : (Jvm.Cond.codeWith ({ cls := "CardRightsLaw", name := "inside", desc := "(LCardRights;I[J)I" } : Jvm.MethodName) method_17_code (4 : Nat) (Option.some FieldType.int) [((0 : Nat), (9 : Nat), (12 : Nat), (13 : Nat))]) ∈ lw_tbl := List.mem_of_getElem? (i := 831) (by decide +kernel)
theorem w_790 : (Jvm.Cond.methodLink "CardRightsLaw" (63 : Nat) ({ cls := "CardRights", name := "inside", desc := "(I)I" } : Jvm.MethodName)) ∈ lw_tbl := List.mem_of_getElem? (i := 832) (by decide +kernel)
theorem w_791 : (Jvm.Cond.instanceMethod ({ cls := "CardRights", name := "inside", desc := "(I)I" } : Jvm.MethodName)) ∈ lw_tbl := List.mem_of_getElem? (i := 833) (by decide +kernel)
theorem w_792 : (Jvm.Cond.selects "CardRights" ({ cls := "CardRights", name := "inside", desc := "(I)I" } : Jvm.MethodName) ({ cls := "CardRights", name := "inside", desc := "(I)I" } : Jvm.MethodName)) ∈ lw_tbl := List.mem_of_getElem? (i := 834) (by decide +kernel)
theorem w_794 : (Jvm.Cond.methodLink "CardRightsLaw" (134 : Nat) ({ cls := "CardRightsLaw", name := "muster", desc := "(LCardRights;II[J)I" } : Jvm.MethodName)) ∈ lw_tbl := List.mem_of_getElem? (i := 836) (by decide +kernel)
theorem w_795 : (Jvm.Cond.static ({ cls := "CardRightsLaw", name := "muster", desc := "(LCardRights;II[J)I" } : Jvm.MethodName)) ∈ lw_tbl := List.mem_of_getElem? (i := 837) (by decide +kernel)
theorem w_796 : (Jvm.Cond.codeWith ({ cls := "CardRightsLaw", name := "muster", desc := "(LCardRights;II[J)I" } : Jvm.MethodName) method_18_code (5 : Nat) (Option.some FieldType.int) [((0 : Nat), (10 : Nat), (13 : Nat), (13 : Nat))]) ∈ lw_tbl := List.mem_of_getElem? (i := 838) (by decide +kernel)
theorem w_797 : (Jvm.Cond.methodLink "CardRightsLaw" (66 : Nat) ({ cls := "CardRights", name := "muster", desc := "(II)I" } : Jvm.MethodName)) ∈ lw_tbl := List.mem_of_getElem? (i := 839) (by decide +kernel)
theorem w_798 : (Jvm.Cond.instanceMethod ({ cls := "CardRights", name := "muster", desc := "(II)I" } : Jvm.MethodName)) ∈ lw_tbl := List.mem_of_getElem? (i := 840) (by decide +kernel)
theorem w_799 : (Jvm.Cond.selects "CardRights" ({ cls := "CardRights", name := "muster", desc := "(II)I" } : Jvm.MethodName) ({ cls := "CardRights", name := "muster", desc := "(II)I" } : Jvm.MethodName)) ∈ lw_tbl := List.mem_of_getElem? (i := 841) (by decide +kernel)
theorem w_802 : (Jvm.Cond.methodLink "CardRightsLaw" (141 : Nat) ({ cls := "CardRightsLaw", name := "found", desc := "(LCardRights;II[J)I" } : Jvm.MethodName)) ∈ lw_tbl := List.mem_of_getElem? (i := 844) (by decide +kernel)
theorem w_803 : (Jvm.Cond.static ({ cls := "CardRightsLaw", name := "found", desc := "(LCardRights;II[J)I" } : Jvm.MethodName)) ∈ lw_tbl := List.mem_of_getElem? (i := 845) (by decide +kernel)
theorem w_804 : (Jvm.Cond.codeWith ({ cls := "CardRightsLaw", name := "found", desc := "(LCardRights;II[J)I" } : Jvm.MethodName) method_19_code (5 : Nat) (Option.some FieldType.int) [((0 : Nat), (10 : Nat), (13 : Nat), (13 : Nat))]) ∈ lw_tbl := List.mem_of_getElem? (i := 846) (by decide +kernel)
theorem w_805 : (Jvm.Cond.methodLink "CardRightsLaw" (69 : Nat) ({ cls := "CardRights", name := "found", desc := "(II)I" } : Jvm.MethodName)) ∈ lw_tbl := List.mem_of_getElem? (i := 847) (by decide +kernel)
theorem w_806 : (Jvm.Cond.instanceMethod ({ cls := "CardRights", name := "found", desc := "(II)I" } : Jvm.MethodName)) ∈ lw_tbl := List.mem_of_getElem? (i := 848) (by decide +kernel)
theorem w_807 : (Jvm.Cond.selects "CardRights" ({ cls := "CardRights", name := "found", desc := "(II)I" } : Jvm.MethodName) ({ cls := "CardRights", name := "found", desc := "(II)I" } : Jvm.MethodName)) ∈ lw_tbl := List.mem_of_getElem? (i := 849) (by decide +kernel)
theorem w_811 : (Jvm.Cond.classLink "CardRightsLaw" (73 : Nat) "CardRightsModel") ∈ lw_tbl := List.mem_of_getElem? (i := 853) (by decide +kernel)
theorem w_812 : (Jvm.Cond.instantiable "CardRightsModel" (41 : Nat)) ∈ lw_tbl := List.mem_of_getElem? (i := 854) (by decide +kernel)
theorem w_813 : (Jvm.Cond.methodLink "CardRightsLaw" (75 : Nat) ({ cls := "CardRightsModel", name := "<init>", desc := "()V" } : Jvm.MethodName)) ∈ lw_tbl := List.mem_of_getElem? (i := 855) (by decide +kernel)
theorem w_814 : (Jvm.Cond.instanceMethod ({ cls := "CardRightsModel", name := "<init>", desc := "()V" } : Jvm.MethodName)) ∈ lw_tbl := List.mem_of_getElem? (i := 856) (by decide +kernel)
theorem w_943 : (Jvm.Cond.methodLink "CardRightsLaw" (82 : Nat) ({ cls := "CardRightsModel", name := "thrown", desc := "()I" } : Jvm.MethodName)) ∈ lw_tbl := List.mem_of_getElem? (i := 985) (by decide +kernel)
theorem w_944 : (Jvm.Cond.instanceMethod ({ cls := "CardRightsModel", name := "thrown", desc := "()I" } : Jvm.MethodName)) ∈ lw_tbl := List.mem_of_getElem? (i := 986) (by decide +kernel)
theorem w_945 : (Jvm.Cond.selects "CardRightsModel" ({ cls := "CardRightsModel", name := "thrown", desc := "()I" } : Jvm.MethodName) ({ cls := "CardRightsModel", name := "thrown", desc := "()I" } : Jvm.MethodName)) ∈ lw_tbl := List.mem_of_getElem? (i := 987) (by decide +kernel)
theorem w_947 : (Jvm.Cond.methodLink "CardRightsLaw" (81 : Nat) ({ cls := "CardRightsModel", name := "room", desc := "(I)I" } : Jvm.MethodName)) ∈ lw_tbl := List.mem_of_getElem? (i := 989) (by decide +kernel)
theorem w_948 : (Jvm.Cond.instanceMethod ({ cls := "CardRightsModel", name := "room", desc := "(I)I" } : Jvm.MethodName)) ∈ lw_tbl := List.mem_of_getElem? (i := 990) (by decide +kernel)
theorem w_949 : (Jvm.Cond.selects "CardRightsModel" ({ cls := "CardRightsModel", name := "room", desc := "(I)I" } : Jvm.MethodName) ({ cls := "CardRightsModel", name := "room", desc := "(I)I" } : Jvm.MethodName)) ∈ lw_tbl := List.mem_of_getElem? (i := 991) (by decide +kernel)
theorem w_958 : (Jvm.Cond.methodLink "CardRightsLaw" (89 : Nat) ({ cls := "CardRightsModel", name := "door", desc := "(II)I" } : Jvm.MethodName)) ∈ lw_tbl := List.mem_of_getElem? (i := 1000) (by decide +kernel)
theorem w_959 : (Jvm.Cond.instanceMethod ({ cls := "CardRightsModel", name := "door", desc := "(II)I" } : Jvm.MethodName)) ∈ lw_tbl := List.mem_of_getElem? (i := 1001) (by decide +kernel)
theorem w_960 : (Jvm.Cond.selects "CardRightsModel" ({ cls := "CardRightsModel", name := "door", desc := "(II)I" } : Jvm.MethodName) ({ cls := "CardRightsModel", name := "door", desc := "(II)I" } : Jvm.MethodName)) ∈ lw_tbl := List.mem_of_getElem? (i := 1002) (by decide +kernel)
theorem w_962 : (Jvm.Cond.methodLink "CardRightsLaw" (92 : Nat) ({ cls := "CardRightsModel", name := "person", desc := "(I)I" } : Jvm.MethodName)) ∈ lw_tbl := List.mem_of_getElem? (i := 1004) (by decide +kernel)
theorem w_963 : (Jvm.Cond.instanceMethod ({ cls := "CardRightsModel", name := "person", desc := "(I)I" } : Jvm.MethodName)) ∈ lw_tbl := List.mem_of_getElem? (i := 1005) (by decide +kernel)
theorem w_964 : (Jvm.Cond.selects "CardRightsModel" ({ cls := "CardRightsModel", name := "person", desc := "(I)I" } : Jvm.MethodName) ({ cls := "CardRightsModel", name := "person", desc := "(I)I" } : Jvm.MethodName)) ∈ lw_tbl := List.mem_of_getElem? (i := 1006) (by decide +kernel)
theorem w_966 : (Jvm.Cond.methodLink "CardRightsLaw" (95 : Nat) ({ cls := "CardRightsModel", name := "card", desc := "(II)I" } : Jvm.MethodName)) ∈ lw_tbl := List.mem_of_getElem? (i := 1008) (by decide +kernel)
theorem w_967 : (Jvm.Cond.instanceMethod ({ cls := "CardRightsModel", name := "card", desc := "(II)I" } : Jvm.MethodName)) ∈ lw_tbl := List.mem_of_getElem? (i := 1009) (by decide +kernel)
theorem w_968 : (Jvm.Cond.selects "CardRightsModel" ({ cls := "CardRightsModel", name := "card", desc := "(II)I" } : Jvm.MethodName) ({ cls := "CardRightsModel", name := "card", desc := "(II)I" } : Jvm.MethodName)) ∈ lw_tbl := List.mem_of_getElem? (i := 1010) (by decide +kernel)
theorem w_978 : (Jvm.Cond.methodLink "CardRightsLaw" (99 : Nat) ({ cls := "CardRightsModel", name := "right", desc := "(IIIII)I" } : Jvm.MethodName)) ∈ lw_tbl := List.mem_of_getElem? (i := 1020) (by decide +kernel)
theorem w_979 : (Jvm.Cond.instanceMethod ({ cls := "CardRightsModel", name := "right", desc := "(IIIII)I" } : Jvm.MethodName)) ∈ lw_tbl := List.mem_of_getElem? (i := 1021) (by decide +kernel)
theorem w_980 : (Jvm.Cond.selects "CardRightsModel" ({ cls := "CardRightsModel", name := "right", desc := "(IIIII)I" } : Jvm.MethodName) ({ cls := "CardRightsModel", name := "right", desc := "(IIIII)I" } : Jvm.MethodName)) ∈ lw_tbl := List.mem_of_getElem? (i := 1022) (by decide +kernel)
theorem w_982 : (Jvm.Cond.methodLink "CardRightsLaw" (102 : Nat) ({ cls := "CardRightsModel", name := "end", desc := "(II)I" } : Jvm.MethodName)) ∈ lw_tbl := List.mem_of_getElem? (i := 1024) (by decide +kernel)
theorem w_983 : (Jvm.Cond.instanceMethod ({ cls := "CardRightsModel", name := "end", desc := "(II)I" } : Jvm.MethodName)) ∈ lw_tbl := List.mem_of_getElem? (i := 1025) (by decide +kernel)
theorem w_984 : (Jvm.Cond.selects "CardRightsModel" ({ cls := "CardRightsModel", name := "end", desc := "(II)I" } : Jvm.MethodName) ({ cls := "CardRightsModel", name := "end", desc := "(II)I" } : Jvm.MethodName)) ∈ lw_tbl := List.mem_of_getElem? (i := 1026) (by decide +kernel)
theorem w_990 : (Jvm.Cond.methodLink "CardRightsLaw" (105 : Nat) ({ cls := "CardRightsModel", name := "lost", desc := "(II)I" } : Jvm.MethodName)) ∈ lw_tbl := List.mem_of_getElem? (i := 1032) (by decide +kernel)
theorem w_991 : (Jvm.Cond.instanceMethod ({ cls := "CardRightsModel", name := "lost", desc := "(II)I" } : Jvm.MethodName)) ∈ lw_tbl := List.mem_of_getElem? (i := 1033) (by decide +kernel)
theorem w_992 : (Jvm.Cond.selects "CardRightsModel" ({ cls := "CardRightsModel", name := "lost", desc := "(II)I" } : Jvm.MethodName) ({ cls := "CardRightsModel", name := "lost", desc := "(II)I" } : Jvm.MethodName)) ∈ lw_tbl := List.mem_of_getElem? (i := 1034) (by decide +kernel)
theorem w_994 : (Jvm.Cond.methodLink "CardRightsLaw" (109 : Nat) ({ cls := "CardRightsModel", name := "two", desc := "(IZ)Z" } : Jvm.MethodName)) ∈ lw_tbl := List.mem_of_getElem? (i := 1036) (by decide +kernel)
theorem w_995 : (Jvm.Cond.instanceMethod ({ cls := "CardRightsModel", name := "two", desc := "(IZ)Z" } : Jvm.MethodName)) ∈ lw_tbl := List.mem_of_getElem? (i := 1037) (by decide +kernel)
theorem w_996 : (Jvm.Cond.selects "CardRightsModel" ({ cls := "CardRightsModel", name := "two", desc := "(IZ)Z" } : Jvm.MethodName) ({ cls := "CardRightsModel", name := "two", desc := "(IZ)Z" } : Jvm.MethodName)) ∈ lw_tbl := List.mem_of_getElem? (i := 1038) (by decide +kernel)
theorem w_998 : (Jvm.Cond.methodLink "CardRightsLaw" (113 : Nat) ({ cls := "CardRightsModel", name := "airlock", desc := "(IIZ)Z" } : Jvm.MethodName)) ∈ lw_tbl := List.mem_of_getElem? (i := 1040) (by decide +kernel)
theorem w_999 : (Jvm.Cond.instanceMethod ({ cls := "CardRightsModel", name := "airlock", desc := "(IIZ)Z" } : Jvm.MethodName)) ∈ lw_tbl := List.mem_of_getElem? (i := 1041) (by decide +kernel)
theorem w_1000 : (Jvm.Cond.selects "CardRightsModel" ({ cls := "CardRightsModel", name := "airlock", desc := "(IIZ)Z" } : Jvm.MethodName) ({ cls := "CardRightsModel", name := "airlock", desc := "(IIZ)Z" } : Jvm.MethodName)) ∈ lw_tbl := List.mem_of_getElem? (i := 1042) (by decide +kernel)
theorem w_1002 : (Jvm.Cond.methodLink "CardRightsLaw" (117 : Nat) ({ cls := "CardRightsModel", name := "state", desc := "(IZI)I" } : Jvm.MethodName)) ∈ lw_tbl := List.mem_of_getElem? (i := 1044) (by decide +kernel)
theorem w_1003 : (Jvm.Cond.instanceMethod ({ cls := "CardRightsModel", name := "state", desc := "(IZI)I" } : Jvm.MethodName)) ∈ lw_tbl := List.mem_of_getElem? (i := 1045) (by decide +kernel)
theorem w_1004 : (Jvm.Cond.selects "CardRightsModel" ({ cls := "CardRightsModel", name := "state", desc := "(IZI)I" } : Jvm.MethodName) ({ cls := "CardRightsModel", name := "state", desc := "(IZI)I" } : Jvm.MethodName)) ∈ lw_tbl := List.mem_of_getElem? (i := 1046) (by decide +kernel)
theorem w_1010 : (Jvm.Cond.methodLink "CardRightsLaw" (124 : Nat) ({ cls := "CardRightsModel", name := "asks", desc := "(IIII)I" } : Jvm.MethodName)) ∈ lw_tbl := List.mem_of_getElem? (i := 1052) (by decide +kernel)
theorem w_1011 : (Jvm.Cond.instanceMethod ({ cls := "CardRightsModel", name := "asks", desc := "(IIII)I" } : Jvm.MethodName)) ∈ lw_tbl := List.mem_of_getElem? (i := 1053) (by decide +kernel)
theorem w_1012 : (Jvm.Cond.selects "CardRightsModel" ({ cls := "CardRightsModel", name := "asks", desc := "(IIII)I" } : Jvm.MethodName) ({ cls := "CardRightsModel", name := "asks", desc := "(IIII)I" } : Jvm.MethodName)) ∈ lw_tbl := List.mem_of_getElem? (i := 1054) (by decide +kernel)
theorem w_1034 : (Jvm.Cond.methodLink "CardRightsLaw" (127 : Nat) ({ cls := "CardRightsModel", name := "both", desc := "(IIIII)I" } : Jvm.MethodName)) ∈ lw_tbl := List.mem_of_getElem? (i := 1076) (by decide +kernel)
theorem w_1035 : (Jvm.Cond.instanceMethod ({ cls := "CardRightsModel", name := "both", desc := "(IIIII)I" } : Jvm.MethodName)) ∈ lw_tbl := List.mem_of_getElem? (i := 1077) (by decide +kernel)
theorem w_1036 : (Jvm.Cond.selects "CardRightsModel" ({ cls := "CardRightsModel", name := "both", desc := "(IIIII)I" } : Jvm.MethodName) ({ cls := "CardRightsModel", name := "both", desc := "(IIIII)I" } : Jvm.MethodName)) ∈ lw_tbl := List.mem_of_getElem? (i := 1078) (by decide +kernel)
theorem w_1038 : (Jvm.Cond.methodLink "CardRightsLaw" (120 : Nat) ({ cls := "CardRightsModel", name := "off", desc := "(IZ)I" } : Jvm.MethodName)) ∈ lw_tbl := List.mem_of_getElem? (i := 1080) (by decide +kernel)
theorem w_1039 : (Jvm.Cond.instanceMethod ({ cls := "CardRightsModel", name := "off", desc := "(IZ)I" } : Jvm.MethodName)) ∈ lw_tbl := List.mem_of_getElem? (i := 1081) (by decide +kernel)
theorem w_1040 : (Jvm.Cond.selects "CardRightsModel" ({ cls := "CardRightsModel", name := "off", desc := "(IZ)I" } : Jvm.MethodName) ({ cls := "CardRightsModel", name := "off", desc := "(IZ)I" } : Jvm.MethodName)) ∈ lw_tbl := List.mem_of_getElem? (i := 1082) (by decide +kernel)
theorem w_1042 : (Jvm.Cond.methodLink "CardRightsLaw" (130 : Nat) ({ cls := "CardRightsModel", name := "where", desc := "(I)I" } : Jvm.MethodName)) ∈ lw_tbl := List.mem_of_getElem? (i := 1084) (by decide +kernel)
theorem w_1043 : (Jvm.Cond.instanceMethod ({ cls := "CardRightsModel", name := "where", desc := "(I)I" } : Jvm.MethodName)) ∈ lw_tbl := List.mem_of_getElem? (i := 1085) (by decide +kernel)
theorem w_1044 : (Jvm.Cond.selects "CardRightsModel" ({ cls := "CardRightsModel", name := "where", desc := "(I)I" } : Jvm.MethodName) ({ cls := "CardRightsModel", name := "where", desc := "(I)I" } : Jvm.MethodName)) ∈ lw_tbl := List.mem_of_getElem? (i := 1086) (by decide +kernel)
theorem w_1046 : (Jvm.Cond.methodLink "CardRightsLaw" (133 : Nat) ({ cls := "CardRightsModel", name := "inside", desc := "(I)I" } : Jvm.MethodName)) ∈ lw_tbl := List.mem_of_getElem? (i := 1088) (by decide +kernel)
theorem w_1047 : (Jvm.Cond.instanceMethod ({ cls := "CardRightsModel", name := "inside", desc := "(I)I" } : Jvm.MethodName)) ∈ lw_tbl := List.mem_of_getElem? (i := 1089) (by decide +kernel)
theorem w_1048 : (Jvm.Cond.selects "CardRightsModel" ({ cls := "CardRightsModel", name := "inside", desc := "(I)I" } : Jvm.MethodName) ({ cls := "CardRightsModel", name := "inside", desc := "(I)I" } : Jvm.MethodName)) ∈ lw_tbl := List.mem_of_getElem? (i := 1090) (by decide +kernel)
theorem w_1050 : (Jvm.Cond.methodLink "CardRightsLaw" (136 : Nat) ({ cls := "CardRightsModel", name := "muster", desc := "(II)I" } : Jvm.MethodName)) ∈ lw_tbl := List.mem_of_getElem? (i := 1092) (by decide +kernel)
theorem w_1051 : (Jvm.Cond.instanceMethod ({ cls := "CardRightsModel", name := "muster", desc := "(II)I" } : Jvm.MethodName)) ∈ lw_tbl := List.mem_of_getElem? (i := 1093) (by decide +kernel)
theorem w_1052 : (Jvm.Cond.selects "CardRightsModel" ({ cls := "CardRightsModel", name := "muster", desc := "(II)I" } : Jvm.MethodName) ({ cls := "CardRightsModel", name := "muster", desc := "(II)I" } : Jvm.MethodName)) ∈ lw_tbl := List.mem_of_getElem? (i := 1094) (by decide +kernel)
theorem w_1054 : (Jvm.Cond.methodLink "CardRightsLaw" (140 : Nat) ({ cls := "CardRightsModel", name := "against", desc := "()I" } : Jvm.MethodName)) ∈ lw_tbl := List.mem_of_getElem? (i := 1096) (by decide +kernel)
theorem w_1055 : (Jvm.Cond.instanceMethod ({ cls := "CardRightsModel", name := "against", desc := "()I" } : Jvm.MethodName)) ∈ lw_tbl := List.mem_of_getElem? (i := 1097) (by decide +kernel)
theorem w_1056 : (Jvm.Cond.selects "CardRightsModel" ({ cls := "CardRightsModel", name := "against", desc := "()I" } : Jvm.MethodName) ({ cls := "CardRightsModel", name := "against", desc := "()I" } : Jvm.MethodName)) ∈ lw_tbl := List.mem_of_getElem? (i := 1098) (by decide +kernel)
theorem w_1058 : (Jvm.Cond.methodLink "CardRightsLaw" (143 : Nat) ({ cls := "CardRightsModel", name := "found", desc := "(II)I" } : Jvm.MethodName)) ∈ lw_tbl := List.mem_of_getElem? (i := 1100) (by decide +kernel)
theorem w_1059 : (Jvm.Cond.instanceMethod ({ cls := "CardRightsModel", name := "found", desc := "(II)I" } : Jvm.MethodName)) ∈ lw_tbl := List.mem_of_getElem? (i := 1101) (by decide +kernel)
theorem w_1060 : (Jvm.Cond.selects "CardRightsModel" ({ cls := "CardRightsModel", name := "found", desc := "(II)I" } : Jvm.MethodName) ({ cls := "CardRightsModel", name := "found", desc := "(II)I" } : Jvm.MethodName)) ∈ lw_tbl := List.mem_of_getElem? (i := 1102) (by decide +kernel)
theorem w_1062 : (Jvm.Cond.methodLink "CardRightsLaw" (147 : Nat) ({ cls := "CardRightsModel", name := "uses", desc := "()I" } : Jvm.MethodName)) ∈ lw_tbl := List.mem_of_getElem? (i := 1104) (by decide +kernel)
theorem w_1063 : (Jvm.Cond.instanceMethod ({ cls := "CardRightsModel", name := "uses", desc := "()I" } : Jvm.MethodName)) ∈ lw_tbl := List.mem_of_getElem? (i := 1105) (by decide +kernel)
theorem w_1064 : (Jvm.Cond.selects "CardRightsModel" ({ cls := "CardRightsModel", name := "uses", desc := "()I" } : Jvm.MethodName) ({ cls := "CardRightsModel", name := "uses", desc := "()I" } : Jvm.MethodName)) ∈ lw_tbl := List.mem_of_getElem? (i := 1106) (by decide +kernel)
theorem w_1066 : (Jvm.Cond.methodLink "CardRightsLaw" (151 : Nat) ({ cls := "CardRightsModel", name := "fewest", desc := "()I" } : Jvm.MethodName)) ∈ lw_tbl := List.mem_of_getElem? (i := 1108) (by decide +kernel)
theorem w_1067 : (Jvm.Cond.instanceMethod ({ cls := "CardRightsModel", name := "fewest", desc := "()I" } : Jvm.MethodName)) ∈ lw_tbl := List.mem_of_getElem? (i := 1109) (by decide +kernel)
theorem w_1068 : (Jvm.Cond.selects "CardRightsModel" ({ cls := "CardRightsModel", name := "fewest", desc := "()I" } : Jvm.MethodName) ({ cls := "CardRightsModel", name := "fewest", desc := "()I" } : Jvm.MethodName)) ∈ lw_tbl := List.mem_of_getElem? (i := 1110) (by decide +kernel)
theorem w_1077 : (Jvm.Cond.methodLink "CardRightsLaw" (155 : Nat) ({ cls := "CardRightsModel", name := "now", desc := "()I" } : Jvm.MethodName)) ∈ lw_tbl := List.mem_of_getElem? (i := 1119) (by decide +kernel)
theorem w_1078 : (Jvm.Cond.instanceMethod ({ cls := "CardRightsModel", name := "now", desc := "()I" } : Jvm.MethodName)) ∈ lw_tbl := List.mem_of_getElem? (i := 1120) (by decide +kernel)
theorem w_1079 : (Jvm.Cond.selects "CardRightsModel" ({ cls := "CardRightsModel", name := "now", desc := "()I" } : Jvm.MethodName) ({ cls := "CardRightsModel", name := "now", desc := "()I" } : Jvm.MethodName)) ∈ lw_tbl := List.mem_of_getElem? (i := 1121) (by decide +kernel)
theorem d_L_room_0 : decode c_L_room 0 = .ok (.aload_n 2, 1) := by decide +kernel
theorem d_L_room_1 : decode c_L_room 1 = .ok (.iconst 0, 1) := by decide +kernel
theorem d_L_room_2 : decode c_L_room 2 = .ok (.aload_n 0, 1) := by decide +kernel
theorem d_L_room_3 : decode c_L_room 3 = .ok (.iload_n 1, 1) := by decide +kernel
theorem d_L_room_4 : decode c_L_room 4 = .ok (.invokevirtual 7, 3) := by decide +kernel
theorem d_L_room_7 : decode c_L_room 7 = .ok (.i2l, 1) := by decide +kernel
theorem d_L_room_8 : decode c_L_room 8 = .ok (.lastore, 1) := by decide +kernel
theorem d_L_room_9 : decode c_L_room 9 = .ok (.goto 9, 3) := by decide +kernel
theorem d_L_room_12 : decode c_L_room 12 = .ok (.astore_n 3, 1) := by decide +kernel
theorem d_L_room_13 : decode c_L_room 13 = .ok (.iconst 1, 1) := by decide +kernel
theorem d_L_room_14 : decode c_L_room 14 = .ok (.ireturn, 1) := by decide +kernel
theorem d_L_room_15 : decode c_L_room 15 = .ok (.astore_n 3, 1) := by decide +kernel
theorem d_L_room_16 : decode c_L_room 16 = .ok (.iconst 2, 1) := by decide +kernel
theorem d_L_room_17 : decode c_L_room 17 = .ok (.ireturn, 1) := by decide +kernel
theorem d_L_room_18 : decode c_L_room 18 = .ok (.iconst 0, 1) := by decide +kernel
theorem d_L_room_19 : decode c_L_room 19 = .ok (.ireturn, 1) := by decide +kernel
def t_L_room (l : Launch) (s0 : State) (D : va_G) (ca : Nat → ClassId) (hdl : Nat → Option Nat) (d mc ms : Nat) : List (Nat × cr_T) := [(0, cr_aload 2 1),
  (1, cr_push (.int 0) 2),
  (2, cr_aload 0 3),
  (3, cr_iload 1 4),
  (4, cr_calVh D kc l (cr_W0 s0) s0.heap.size 0 y_C_room cw_C_room hdl d mc ms 1 4 7),
  (7, cr_i2l 8),
  (8, cr_last D kc s0.heap.size (ca 1) 9),
  (9, cr_goto 18),
  (12, cr_astore 3 13),
  (13, cr_push (.int 1) 14),
  (14, cr_iret mc ms),
  (15, cr_astore 3 16),
  (16, cr_push (.int 2) 17),
  (17, cr_iret mc ms),
  (18, cr_push (.int 0) 19),
  (19, cr_iret mc ms)]
theorem u_L_room {s0 : State} {D : va_G} {ca : Nat → ClassId} {e0 : Nat} (Z : cr_Z0 s0 D ca e0) : ∀ V, cr_W0 s0 V → (cw_L_room).before #[] V = true ∧ (Cond.initialized (y_L_room).cls).before #[] V = true := fun V hU => ⟨cr_w Z w_257 rfl hU #[], cr_w Z w_0 rfl hU #[]⟩
set_option maxHeartbeats 4000000 in
set_option maxRecDepth 20000 in
theorem s_L_room {p : Program} {l : Launch} {e : Env} {R : Room} {s : State} {m : MethodId} {args : Array Value} {below : List Frame} {meth : Method} {c : Code} {s0 : State} {D : va_G} {ca : Nat → ClassId} {e0 d mc ms : Nat} {Q : cr_Q} {hdl : Nat → Option Nat} (Z : cr_Z0 s0 D ca e0) (C : cr_C p R s m meth c (cr_W0 s0) s0.heap.size y_L_room c_L_room 4 (Option.some FieldType.int) d mc ms)
    (hcat : ∀ kd hp (cell : Cell), hdl kd = some hp → s.vm.findClass (cr_ex kd) = some cell.cls → ∀ {T' : State} {locs' : List Loc} {k' n' : Nat}, Stand p l e R s m args below meth c T' locs' k' n' → ∃ pre x rest, c.exceptionTable.toList = pre ++ x :: rest ∧ (∀ y ∈ pre, ct_P e.platform s m.cls 4 cell.cls y) ∧ covers x 4 = true ∧ ct_K e.platform s m.cls cell.cls x ∧ x.handlerPc = hp) :
    ∀ x ∈ t_L_room l s0 D ca hdl d mc ms, cr_Snd p l e R s m args below meth c s0.heap.size mc ms Q x.1 x.2 := by
  obtain ⟨hx, hb, hml, hown, hr, hlk, hnm, hU, hlo, hR⟩ := C
  have hK := cr_Z0K Z hU
  have hRc : R.cells = mc := by rw [hR]; rfl
  have hRs : R.slots = ms := by rw [hR]; rfl
  unfold t_L_room
  refine cr_cons (cr_aload_n_ok hx hb d_L_room_0 rfl rfl) ?_
  refine cr_cons (cr_iconst_ok hx hb d_L_room_1 (by decide) rfl) ?_
  refine cr_cons (cr_aload_n_ok hx hb d_L_room_2 rfl rfl) ?_
  refine cr_cons (cr_iload_n_ok hx hb d_L_room_3 rfl rfl) ?_
  refine cr_cons (cr_calVh_ok (C := R_C) (Tf := T_C) (N := 10) hx hb hml hown hU hlo hR (cr_W0_st s0) hcat hK rfl (u_C_room Z) (cr_w Z w_260 rfl hU args) (cr_w Z w_261 rfl hU args) (cr_w Z w_262 rfl hU args) (by decide) (by decide +kernel) (by decide) d_L_room_4 rfl) ?_
  refine cr_cons (cr_i2l_ok hx hb d_L_room_7 rfl) ?_
  refine cr_cons (cr_last_ok (t0 := 1) hx hb hK rfl d_L_room_8 rfl) ?_
  refine cr_cons (cr_goto_ok hx hb d_L_room_9 (by decide)) ?_
  refine cr_cons (cr_astore_n_ok hx hb d_L_room_12 rfl rfl) ?_
  refine cr_cons (cr_iconst_ok hx hb d_L_room_13 (by decide) rfl) ?_
  refine cr_cons (cr_iret_ok hx hb hr hlk d_L_room_14) ?_
  refine cr_cons (cr_astore_n_ok hx hb d_L_room_15 rfl rfl) ?_
  refine cr_cons (cr_iconst_ok hx hb d_L_room_16 (by decide) rfl) ?_
  refine cr_cons (cr_iret_ok hx hb hr hlk d_L_room_17) ?_
  refine cr_cons (cr_iconst_ok hx hb d_L_room_18 (by decide) rfl) ?_
  refine cr_cons (cr_iret_ok hx hb hr hlk d_L_room_19) ?_
  exact cr_nil
theorem d_L_door_0 : decode c_L_door 0 = .ok (.aload_n 3, 1) := by decide +kernel
theorem d_L_door_1 : decode c_L_door 1 = .ok (.iconst 0, 1) := by decide +kernel
theorem d_L_door_2 : decode c_L_door 2 = .ok (.aload_n 0, 1) := by decide +kernel
theorem d_L_door_3 : decode c_L_door 3 = .ok (.iload_n 1, 1) := by decide +kernel
theorem d_L_door_4 : decode c_L_door 4 = .ok (.iload_n 2, 1) := by decide +kernel
theorem d_L_door_5 : decode c_L_door 5 = .ok (.invokevirtual 17, 3) := by decide +kernel
theorem d_L_door_8 : decode c_L_door 8 = .ok (.i2l, 1) := by decide +kernel
theorem d_L_door_9 : decode c_L_door 9 = .ok (.lastore, 1) := by decide +kernel
theorem d_L_door_10 : decode c_L_door 10 = .ok (.goto 11, 3) := by decide +kernel
theorem d_L_door_13 : decode c_L_door 13 = .ok (.astore 4, 2) := by decide +kernel
theorem d_L_door_15 : decode c_L_door 15 = .ok (.iconst 1, 1) := by decide +kernel
theorem d_L_door_16 : decode c_L_door 16 = .ok (.ireturn, 1) := by decide +kernel
theorem d_L_door_17 : decode c_L_door 17 = .ok (.astore 4, 2) := by decide +kernel
theorem d_L_door_19 : decode c_L_door 19 = .ok (.iconst 2, 1) := by decide +kernel
theorem d_L_door_20 : decode c_L_door 20 = .ok (.ireturn, 1) := by decide +kernel
theorem d_L_door_21 : decode c_L_door 21 = .ok (.iconst 0, 1) := by decide +kernel
theorem d_L_door_22 : decode c_L_door 22 = .ok (.ireturn, 1) := by decide +kernel
def t_L_door (l : Launch) (s0 : State) (D : va_G) (ca : Nat → ClassId) (hdl : Nat → Option Nat) (d mc ms : Nat) : List (Nat × cr_T) := [(0, cr_aload 3 1),
  (1, cr_push (.int 0) 2),
  (2, cr_aload 0 3),
  (3, cr_iload 1 4),
  (4, cr_iload 2 5),
  (5, cr_calVh D kc l (cr_W0 s0) s0.heap.size 0 y_C_door cw_C_door hdl d mc ms 2 5 8),
  (8, cr_i2l 9),
  (9, cr_last D kc s0.heap.size (ca 1) 10),
  (10, cr_goto 21),
  (13, cr_astore 4 15),
  (15, cr_push (.int 1) 16),
  (16, cr_iret mc ms),
  (17, cr_astore 4 19),
  (19, cr_push (.int 2) 20),
  (20, cr_iret mc ms),
  (21, cr_push (.int 0) 22),
  (22, cr_iret mc ms)]
theorem u_L_door {s0 : State} {D : va_G} {ca : Nat → ClassId} {e0 : Nat} (Z : cr_Z0 s0 D ca e0) : ∀ V, cr_W0 s0 V → (cw_L_door).before #[] V = true ∧ (Cond.initialized (y_L_door).cls).before #[] V = true := fun V hU => ⟨cr_w Z w_434 rfl hU #[], cr_w Z w_0 rfl hU #[]⟩
set_option maxHeartbeats 4000000 in
set_option maxRecDepth 20000 in
theorem s_L_door {p : Program} {l : Launch} {e : Env} {R : Room} {s : State} {m : MethodId} {args : Array Value} {below : List Frame} {meth : Method} {c : Code} {s0 : State} {D : va_G} {ca : Nat → ClassId} {e0 d mc ms : Nat} {Q : cr_Q} {hdl : Nat → Option Nat} (Z : cr_Z0 s0 D ca e0) (C : cr_C p R s m meth c (cr_W0 s0) s0.heap.size y_L_door c_L_door 5 (Option.some FieldType.int) d mc ms)
    (hcat : ∀ kd hp (cell : Cell), hdl kd = some hp → s.vm.findClass (cr_ex kd) = some cell.cls → ∀ {T' : State} {locs' : List Loc} {k' n' : Nat}, Stand p l e R s m args below meth c T' locs' k' n' → ∃ pre x rest, c.exceptionTable.toList = pre ++ x :: rest ∧ (∀ y ∈ pre, ct_P e.platform s m.cls 5 cell.cls y) ∧ covers x 5 = true ∧ ct_K e.platform s m.cls cell.cls x ∧ x.handlerPc = hp) :
    ∀ x ∈ t_L_door l s0 D ca hdl d mc ms, cr_Snd p l e R s m args below meth c s0.heap.size mc ms Q x.1 x.2 := by
  obtain ⟨hx, hb, hml, hown, hr, hlk, hnm, hU, hlo, hR⟩ := C
  have hK := cr_Z0K Z hU
  have hRc : R.cells = mc := by rw [hR]; rfl
  have hRs : R.slots = ms := by rw [hR]; rfl
  unfold t_L_door
  refine cr_cons (cr_aload_n_ok hx hb d_L_door_0 rfl rfl) ?_
  refine cr_cons (cr_iconst_ok hx hb d_L_door_1 (by decide) rfl) ?_
  refine cr_cons (cr_aload_n_ok hx hb d_L_door_2 rfl rfl) ?_
  refine cr_cons (cr_iload_n_ok hx hb d_L_door_3 rfl rfl) ?_
  refine cr_cons (cr_iload_n_ok hx hb d_L_door_4 rfl rfl) ?_
  refine cr_cons (cr_calVh_ok (C := R_C) (Tf := T_C) (N := 10) hx hb hml hown hU hlo hR (cr_W0_st s0) hcat hK rfl (u_C_door Z) (cr_w Z w_435 rfl hU args) (cr_w Z w_436 rfl hU args) (cr_w Z w_437 rfl hU args) (by decide) (by decide +kernel) (by decide) d_L_door_5 rfl) ?_
  refine cr_cons (cr_i2l_ok hx hb d_L_door_8 rfl) ?_
  refine cr_cons (cr_last_ok (t0 := 1) hx hb hK rfl d_L_door_9 rfl) ?_
  refine cr_cons (cr_goto_ok hx hb d_L_door_10 (by decide)) ?_
  refine cr_cons (cr_astore_ok hx hb d_L_door_13 rfl) ?_
  refine cr_cons (cr_iconst_ok hx hb d_L_door_15 (by decide) rfl) ?_
  refine cr_cons (cr_iret_ok hx hb hr hlk d_L_door_16) ?_
  refine cr_cons (cr_astore_ok hx hb d_L_door_17 rfl) ?_
  refine cr_cons (cr_iconst_ok hx hb d_L_door_19 (by decide) rfl) ?_
  refine cr_cons (cr_iret_ok hx hb hr hlk d_L_door_20) ?_
  refine cr_cons (cr_iconst_ok hx hb d_L_door_21 (by decide) rfl) ?_
  refine cr_cons (cr_iret_ok hx hb hr hlk d_L_door_22) ?_
  exact cr_nil
theorem d_L_person_0 : decode c_L_person 0 = .ok (.aload_n 2, 1) := by decide +kernel
theorem d_L_person_1 : decode c_L_person 1 = .ok (.iconst 0, 1) := by decide +kernel
theorem d_L_person_2 : decode c_L_person 2 = .ok (.aload_n 0, 1) := by decide +kernel
theorem d_L_person_3 : decode c_L_person 3 = .ok (.iload_n 1, 1) := by decide +kernel
theorem d_L_person_4 : decode c_L_person 4 = .ok (.invokevirtual 21, 3) := by decide +kernel
theorem d_L_person_7 : decode c_L_person 7 = .ok (.i2l, 1) := by decide +kernel
theorem d_L_person_8 : decode c_L_person 8 = .ok (.lastore, 1) := by decide +kernel
theorem d_L_person_9 : decode c_L_person 9 = .ok (.goto 9, 3) := by decide +kernel
theorem d_L_person_12 : decode c_L_person 12 = .ok (.astore_n 3, 1) := by decide +kernel
theorem d_L_person_13 : decode c_L_person 13 = .ok (.iconst 1, 1) := by decide +kernel
theorem d_L_person_14 : decode c_L_person 14 = .ok (.ireturn, 1) := by decide +kernel
theorem d_L_person_15 : decode c_L_person 15 = .ok (.astore_n 3, 1) := by decide +kernel
theorem d_L_person_16 : decode c_L_person 16 = .ok (.iconst 2, 1) := by decide +kernel
theorem d_L_person_17 : decode c_L_person 17 = .ok (.ireturn, 1) := by decide +kernel
theorem d_L_person_18 : decode c_L_person 18 = .ok (.iconst 0, 1) := by decide +kernel
theorem d_L_person_19 : decode c_L_person 19 = .ok (.ireturn, 1) := by decide +kernel
def t_L_person (l : Launch) (s0 : State) (D : va_G) (ca : Nat → ClassId) (hdl : Nat → Option Nat) (d mc ms : Nat) : List (Nat × cr_T) := [(0, cr_aload 2 1),
  (1, cr_push (.int 0) 2),
  (2, cr_aload 0 3),
  (3, cr_iload 1 4),
  (4, cr_calVh D kc l (cr_W0 s0) s0.heap.size 0 y_C_person cw_C_person hdl d mc ms 1 4 7),
  (7, cr_i2l 8),
  (8, cr_last D kc s0.heap.size (ca 1) 9),
  (9, cr_goto 18),
  (12, cr_astore 3 13),
  (13, cr_push (.int 1) 14),
  (14, cr_iret mc ms),
  (15, cr_astore 3 16),
  (16, cr_push (.int 2) 17),
  (17, cr_iret mc ms),
  (18, cr_push (.int 0) 19),
  (19, cr_iret mc ms)]
theorem u_L_person {s0 : State} {D : va_G} {ca : Nat → ClassId} {e0 : Nat} (Z : cr_Z0 s0 D ca e0) : ∀ V, cr_W0 s0 V → (cw_L_person).before #[] V = true ∧ (Cond.initialized (y_L_person).cls).before #[] V = true := fun V hU => ⟨cr_w Z w_498 rfl hU #[], cr_w Z w_0 rfl hU #[]⟩
set_option maxHeartbeats 4000000 in
set_option maxRecDepth 20000 in
theorem s_L_person {p : Program} {l : Launch} {e : Env} {R : Room} {s : State} {m : MethodId} {args : Array Value} {below : List Frame} {meth : Method} {c : Code} {s0 : State} {D : va_G} {ca : Nat → ClassId} {e0 d mc ms : Nat} {Q : cr_Q} {hdl : Nat → Option Nat} (Z : cr_Z0 s0 D ca e0) (C : cr_C p R s m meth c (cr_W0 s0) s0.heap.size y_L_person c_L_person 4 (Option.some FieldType.int) d mc ms)
    (hcat : ∀ kd hp (cell : Cell), hdl kd = some hp → s.vm.findClass (cr_ex kd) = some cell.cls → ∀ {T' : State} {locs' : List Loc} {k' n' : Nat}, Stand p l e R s m args below meth c T' locs' k' n' → ∃ pre x rest, c.exceptionTable.toList = pre ++ x :: rest ∧ (∀ y ∈ pre, ct_P e.platform s m.cls 4 cell.cls y) ∧ covers x 4 = true ∧ ct_K e.platform s m.cls cell.cls x ∧ x.handlerPc = hp) :
    ∀ x ∈ t_L_person l s0 D ca hdl d mc ms, cr_Snd p l e R s m args below meth c s0.heap.size mc ms Q x.1 x.2 := by
  obtain ⟨hx, hb, hml, hown, hr, hlk, hnm, hU, hlo, hR⟩ := C
  have hK := cr_Z0K Z hU
  have hRc : R.cells = mc := by rw [hR]; rfl
  have hRs : R.slots = ms := by rw [hR]; rfl
  unfold t_L_person
  refine cr_cons (cr_aload_n_ok hx hb d_L_person_0 rfl rfl) ?_
  refine cr_cons (cr_iconst_ok hx hb d_L_person_1 (by decide) rfl) ?_
  refine cr_cons (cr_aload_n_ok hx hb d_L_person_2 rfl rfl) ?_
  refine cr_cons (cr_iload_n_ok hx hb d_L_person_3 rfl rfl) ?_
  refine cr_cons (cr_calVh_ok (C := R_C) (Tf := T_C) (N := 10) hx hb hml hown hU hlo hR (cr_W0_st s0) hcat hK rfl (u_C_person Z) (cr_w Z w_499 rfl hU args) (cr_w Z w_500 rfl hU args) (cr_w Z w_501 rfl hU args) (by decide) (by decide +kernel) (by decide) d_L_person_4 rfl) ?_
  refine cr_cons (cr_i2l_ok hx hb d_L_person_7 rfl) ?_
  refine cr_cons (cr_last_ok (t0 := 1) hx hb hK rfl d_L_person_8 rfl) ?_
  refine cr_cons (cr_goto_ok hx hb d_L_person_9 (by decide)) ?_
  refine cr_cons (cr_astore_n_ok hx hb d_L_person_12 rfl rfl) ?_
  refine cr_cons (cr_iconst_ok hx hb d_L_person_13 (by decide) rfl) ?_
  refine cr_cons (cr_iret_ok hx hb hr hlk d_L_person_14) ?_
  refine cr_cons (cr_astore_n_ok hx hb d_L_person_15 rfl rfl) ?_
  refine cr_cons (cr_iconst_ok hx hb d_L_person_16 (by decide) rfl) ?_
  refine cr_cons (cr_iret_ok hx hb hr hlk d_L_person_17) ?_
  refine cr_cons (cr_iconst_ok hx hb d_L_person_18 (by decide) rfl) ?_
  refine cr_cons (cr_iret_ok hx hb hr hlk d_L_person_19) ?_
  exact cr_nil
theorem d_L_card_0 : decode c_L_card 0 = .ok (.aload_n 3, 1) := by decide +kernel
theorem d_L_card_1 : decode c_L_card 1 = .ok (.iconst 0, 1) := by decide +kernel
theorem d_L_card_2 : decode c_L_card 2 = .ok (.aload_n 0, 1) := by decide +kernel
theorem d_L_card_3 : decode c_L_card 3 = .ok (.iload_n 1, 1) := by decide +kernel
theorem d_L_card_4 : decode c_L_card 4 = .ok (.iload_n 2, 1) := by decide +kernel
theorem d_L_card_5 : decode c_L_card 5 = .ok (.invokevirtual 24, 3) := by decide +kernel
theorem d_L_card_8 : decode c_L_card 8 = .ok (.i2l, 1) := by decide +kernel
theorem d_L_card_9 : decode c_L_card 9 = .ok (.lastore, 1) := by decide +kernel
theorem d_L_card_10 : decode c_L_card 10 = .ok (.goto 11, 3) := by decide +kernel
theorem d_L_card_13 : decode c_L_card 13 = .ok (.astore 4, 2) := by decide +kernel
theorem d_L_card_15 : decode c_L_card 15 = .ok (.iconst 1, 1) := by decide +kernel
theorem d_L_card_16 : decode c_L_card 16 = .ok (.ireturn, 1) := by decide +kernel
theorem d_L_card_17 : decode c_L_card 17 = .ok (.astore 4, 2) := by decide +kernel
theorem d_L_card_19 : decode c_L_card 19 = .ok (.iconst 2, 1) := by decide +kernel
theorem d_L_card_20 : decode c_L_card 20 = .ok (.ireturn, 1) := by decide +kernel
theorem d_L_card_21 : decode c_L_card 21 = .ok (.iconst 0, 1) := by decide +kernel
theorem d_L_card_22 : decode c_L_card 22 = .ok (.ireturn, 1) := by decide +kernel
def t_L_card (l : Launch) (s0 : State) (D : va_G) (ca : Nat → ClassId) (hdl : Nat → Option Nat) (d mc ms : Nat) : List (Nat × cr_T) := [(0, cr_aload 3 1),
  (1, cr_push (.int 0) 2),
  (2, cr_aload 0 3),
  (3, cr_iload 1 4),
  (4, cr_iload 2 5),
  (5, cr_calVh D kc l (cr_W0 s0) s0.heap.size 0 y_C_card cw_C_card hdl d mc ms 2 5 8),
  (8, cr_i2l 9),
  (9, cr_last D kc s0.heap.size (ca 1) 10),
  (10, cr_goto 21),
  (13, cr_astore 4 15),
  (15, cr_push (.int 1) 16),
  (16, cr_iret mc ms),
  (17, cr_astore 4 19),
  (19, cr_push (.int 2) 20),
  (20, cr_iret mc ms),
  (21, cr_push (.int 0) 22),
  (22, cr_iret mc ms)]
theorem u_L_card {s0 : State} {D : va_G} {ca : Nat → ClassId} {e0 : Nat} (Z : cr_Z0 s0 D ca e0) : ∀ V, cr_W0 s0 V → (cw_L_card).before #[] V = true ∧ (Cond.initialized (y_L_card).cls).before #[] V = true := fun V hU => ⟨cr_w Z w_535 rfl hU #[], cr_w Z w_0 rfl hU #[]⟩
set_option maxHeartbeats 4000000 in
set_option maxRecDepth 20000 in
theorem s_L_card {p : Program} {l : Launch} {e : Env} {R : Room} {s : State} {m : MethodId} {args : Array Value} {below : List Frame} {meth : Method} {c : Code} {s0 : State} {D : va_G} {ca : Nat → ClassId} {e0 d mc ms : Nat} {Q : cr_Q} {hdl : Nat → Option Nat} (Z : cr_Z0 s0 D ca e0) (C : cr_C p R s m meth c (cr_W0 s0) s0.heap.size y_L_card c_L_card 5 (Option.some FieldType.int) d mc ms)
    (hcat : ∀ kd hp (cell : Cell), hdl kd = some hp → s.vm.findClass (cr_ex kd) = some cell.cls → ∀ {T' : State} {locs' : List Loc} {k' n' : Nat}, Stand p l e R s m args below meth c T' locs' k' n' → ∃ pre x rest, c.exceptionTable.toList = pre ++ x :: rest ∧ (∀ y ∈ pre, ct_P e.platform s m.cls 5 cell.cls y) ∧ covers x 5 = true ∧ ct_K e.platform s m.cls cell.cls x ∧ x.handlerPc = hp) :
    ∀ x ∈ t_L_card l s0 D ca hdl d mc ms, cr_Snd p l e R s m args below meth c s0.heap.size mc ms Q x.1 x.2 := by
  obtain ⟨hx, hb, hml, hown, hr, hlk, hnm, hU, hlo, hR⟩ := C
  have hK := cr_Z0K Z hU
  have hRc : R.cells = mc := by rw [hR]; rfl
  have hRs : R.slots = ms := by rw [hR]; rfl
  unfold t_L_card
  refine cr_cons (cr_aload_n_ok hx hb d_L_card_0 rfl rfl) ?_
  refine cr_cons (cr_iconst_ok hx hb d_L_card_1 (by decide) rfl) ?_
  refine cr_cons (cr_aload_n_ok hx hb d_L_card_2 rfl rfl) ?_
  refine cr_cons (cr_iload_n_ok hx hb d_L_card_3 rfl rfl) ?_
  refine cr_cons (cr_iload_n_ok hx hb d_L_card_4 rfl rfl) ?_
  refine cr_cons (cr_calVh_ok (C := R_C) (Tf := T_C) (N := 10) hx hb hml hown hU hlo hR (cr_W0_st s0) hcat hK rfl (u_C_card Z) (cr_w Z w_536 rfl hU args) (cr_w Z w_537 rfl hU args) (cr_w Z w_538 rfl hU args) (by decide) (by decide +kernel) (by decide) d_L_card_5 rfl) ?_
  refine cr_cons (cr_i2l_ok hx hb d_L_card_8 rfl) ?_
  refine cr_cons (cr_last_ok (t0 := 1) hx hb hK rfl d_L_card_9 rfl) ?_
  refine cr_cons (cr_goto_ok hx hb d_L_card_10 (by decide)) ?_
  refine cr_cons (cr_astore_ok hx hb d_L_card_13 rfl) ?_
  refine cr_cons (cr_iconst_ok hx hb d_L_card_15 (by decide) rfl) ?_
  refine cr_cons (cr_iret_ok hx hb hr hlk d_L_card_16) ?_
  refine cr_cons (cr_astore_ok hx hb d_L_card_17 rfl) ?_
  refine cr_cons (cr_iconst_ok hx hb d_L_card_19 (by decide) rfl) ?_
  refine cr_cons (cr_iret_ok hx hb hr hlk d_L_card_20) ?_
  refine cr_cons (cr_iconst_ok hx hb d_L_card_21 (by decide) rfl) ?_
  refine cr_cons (cr_iret_ok hx hb hr hlk d_L_card_22) ?_
  exact cr_nil
theorem d_L_right_0 : decode c_L_right 0 = .ok (.aload 6, 2) := by decide +kernel
theorem d_L_right_2 : decode c_L_right 2 = .ok (.iconst 0, 1) := by decide +kernel
theorem d_L_right_3 : decode c_L_right 3 = .ok (.aload_n 0, 1) := by decide +kernel
theorem d_L_right_4 : decode c_L_right 4 = .ok (.iload_n 1, 1) := by decide +kernel
theorem d_L_right_5 : decode c_L_right 5 = .ok (.iload_n 2, 1) := by decide +kernel
theorem d_L_right_6 : decode c_L_right 6 = .ok (.iload_n 3, 1) := by decide +kernel
theorem d_L_right_7 : decode c_L_right 7 = .ok (.iload 4, 2) := by decide +kernel
theorem d_L_right_9 : decode c_L_right 9 = .ok (.iload 5, 2) := by decide +kernel
theorem d_L_right_11 : decode c_L_right 11 = .ok (.invokevirtual 27, 3) := by decide +kernel
theorem d_L_right_14 : decode c_L_right 14 = .ok (.i2l, 1) := by decide +kernel
theorem d_L_right_15 : decode c_L_right 15 = .ok (.lastore, 1) := by decide +kernel
theorem d_L_right_16 : decode c_L_right 16 = .ok (.goto 11, 3) := by decide +kernel
theorem d_L_right_19 : decode c_L_right 19 = .ok (.astore 7, 2) := by decide +kernel
theorem d_L_right_21 : decode c_L_right 21 = .ok (.iconst 1, 1) := by decide +kernel
theorem d_L_right_22 : decode c_L_right 22 = .ok (.ireturn, 1) := by decide +kernel
theorem d_L_right_23 : decode c_L_right 23 = .ok (.astore 7, 2) := by decide +kernel
theorem d_L_right_25 : decode c_L_right 25 = .ok (.iconst 2, 1) := by decide +kernel
theorem d_L_right_26 : decode c_L_right 26 = .ok (.ireturn, 1) := by decide +kernel
theorem d_L_right_27 : decode c_L_right 27 = .ok (.iconst 0, 1) := by decide +kernel
theorem d_L_right_28 : decode c_L_right 28 = .ok (.ireturn, 1) := by decide +kernel
def t_L_right (l : Launch) (s0 : State) (D : va_G) (ca : Nat → ClassId) (hdl : Nat → Option Nat) (d mc ms : Nat) : List (Nat × cr_T) := [(0, cr_aload 6 2),
  (2, cr_push (.int 0) 3),
  (3, cr_aload 0 4),
  (4, cr_iload 1 5),
  (5, cr_iload 2 6),
  (6, cr_iload 3 7),
  (7, cr_iload 4 9),
  (9, cr_iload 5 11),
  (11, cr_calVh D kc l (cr_W0 s0) s0.heap.size 0 y_C_right cw_C_right hdl d mc ms 5 8 14),
  (14, cr_i2l 15),
  (15, cr_last D kc s0.heap.size (ca 1) 16),
  (16, cr_goto 27),
  (19, cr_astore 7 21),
  (21, cr_push (.int 1) 22),
  (22, cr_iret mc ms),
  (23, cr_astore 7 25),
  (25, cr_push (.int 2) 26),
  (26, cr_iret mc ms),
  (27, cr_push (.int 0) 28),
  (28, cr_iret mc ms)]
theorem u_L_right {s0 : State} {D : va_G} {ca : Nat → ClassId} {e0 : Nat} (Z : cr_Z0 s0 D ca e0) : ∀ V, cr_W0 s0 V → (cw_L_right).before #[] V = true ∧ (Cond.initialized (y_L_right).cls).before #[] V = true := fun V hU => ⟨cr_w Z w_572 rfl hU #[], cr_w Z w_0 rfl hU #[]⟩
set_option maxHeartbeats 4000000 in
set_option maxRecDepth 20000 in
theorem s_L_right {p : Program} {l : Launch} {e : Env} {R : Room} {s : State} {m : MethodId} {args : Array Value} {below : List Frame} {meth : Method} {c : Code} {s0 : State} {D : va_G} {ca : Nat → ClassId} {e0 d mc ms : Nat} {Q : cr_Q} {hdl : Nat → Option Nat} (Z : cr_Z0 s0 D ca e0) (C : cr_C p R s m meth c (cr_W0 s0) s0.heap.size y_L_right c_L_right 8 (Option.some FieldType.int) d mc ms)
    (hcat : ∀ kd hp (cell : Cell), hdl kd = some hp → s.vm.findClass (cr_ex kd) = some cell.cls → ∀ {T' : State} {locs' : List Loc} {k' n' : Nat}, Stand p l e R s m args below meth c T' locs' k' n' → ∃ pre x rest, c.exceptionTable.toList = pre ++ x :: rest ∧ (∀ y ∈ pre, ct_P e.platform s m.cls 11 cell.cls y) ∧ covers x 11 = true ∧ ct_K e.platform s m.cls cell.cls x ∧ x.handlerPc = hp) :
    ∀ x ∈ t_L_right l s0 D ca hdl d mc ms, cr_Snd p l e R s m args below meth c s0.heap.size mc ms Q x.1 x.2 := by
  obtain ⟨hx, hb, hml, hown, hr, hlk, hnm, hU, hlo, hR⟩ := C
  have hK := cr_Z0K Z hU
  have hRc : R.cells = mc := by rw [hR]; rfl
  have hRs : R.slots = ms := by rw [hR]; rfl
  unfold t_L_right
  refine cr_cons (cr_aload_ok hx hb d_L_right_0 rfl) ?_
  refine cr_cons (cr_iconst_ok hx hb d_L_right_2 (by decide) rfl) ?_
  refine cr_cons (cr_aload_n_ok hx hb d_L_right_3 rfl rfl) ?_
  refine cr_cons (cr_iload_n_ok hx hb d_L_right_4 rfl rfl) ?_
  refine cr_cons (cr_iload_n_ok hx hb d_L_right_5 rfl rfl) ?_
  refine cr_cons (cr_iload_n_ok hx hb d_L_right_6 rfl rfl) ?_
  refine cr_cons (cr_iload_ok hx hb d_L_right_7 rfl) ?_
  refine cr_cons (cr_iload_ok hx hb d_L_right_9 rfl) ?_
  refine cr_cons (cr_calVh_ok (C := R_C) (Tf := T_C) (N := 10) hx hb hml hown hU hlo hR (cr_W0_st s0) hcat hK rfl (u_C_right Z) (cr_w Z w_573 rfl hU args) (cr_w Z w_574 rfl hU args) (cr_w Z w_575 rfl hU args) (by decide) (by decide +kernel) (by decide) d_L_right_11 rfl) ?_
  refine cr_cons (cr_i2l_ok hx hb d_L_right_14 rfl) ?_
  refine cr_cons (cr_last_ok (t0 := 1) hx hb hK rfl d_L_right_15 rfl) ?_
  refine cr_cons (cr_goto_ok hx hb d_L_right_16 (by decide)) ?_
  refine cr_cons (cr_astore_ok hx hb d_L_right_19 rfl) ?_
  refine cr_cons (cr_iconst_ok hx hb d_L_right_21 (by decide) rfl) ?_
  refine cr_cons (cr_iret_ok hx hb hr hlk d_L_right_22) ?_
  refine cr_cons (cr_astore_ok hx hb d_L_right_23 rfl) ?_
  refine cr_cons (cr_iconst_ok hx hb d_L_right_25 (by decide) rfl) ?_
  refine cr_cons (cr_iret_ok hx hb hr hlk d_L_right_26) ?_
  refine cr_cons (cr_iconst_ok hx hb d_L_right_27 (by decide) rfl) ?_
  refine cr_cons (cr_iret_ok hx hb hr hlk d_L_right_28) ?_
  exact cr_nil
theorem d_L_end_0 : decode c_L_end 0 = .ok (.aload_n 3, 1) := by decide +kernel
theorem d_L_end_1 : decode c_L_end 1 = .ok (.iconst 0, 1) := by decide +kernel
theorem d_L_end_2 : decode c_L_end 2 = .ok (.aload_n 0, 1) := by decide +kernel
theorem d_L_end_3 : decode c_L_end 3 = .ok (.iload_n 1, 1) := by decide +kernel
theorem d_L_end_4 : decode c_L_end 4 = .ok (.iload_n 2, 1) := by decide +kernel
theorem d_L_end_5 : decode c_L_end 5 = .ok (.invokevirtual 31, 3) := by decide +kernel
theorem d_L_end_8 : decode c_L_end 8 = .ok (.i2l, 1) := by decide +kernel
theorem d_L_end_9 : decode c_L_end 9 = .ok (.lastore, 1) := by decide +kernel
theorem d_L_end_10 : decode c_L_end 10 = .ok (.goto 7, 3) := by decide +kernel
theorem d_L_end_13 : decode c_L_end 13 = .ok (.astore 4, 2) := by decide +kernel
theorem d_L_end_15 : decode c_L_end 15 = .ok (.iconst 1, 1) := by decide +kernel
theorem d_L_end_16 : decode c_L_end 16 = .ok (.ireturn, 1) := by decide +kernel
theorem d_L_end_17 : decode c_L_end 17 = .ok (.iconst 0, 1) := by decide +kernel
theorem d_L_end_18 : decode c_L_end 18 = .ok (.ireturn, 1) := by decide +kernel
def t_L_end (l : Launch) (s0 : State) (D : va_G) (ca : Nat → ClassId) (hdl : Nat → Option Nat) (d mc ms : Nat) : List (Nat × cr_T) := [(0, cr_aload 3 1),
  (1, cr_push (.int 0) 2),
  (2, cr_aload 0 3),
  (3, cr_iload 1 4),
  (4, cr_iload 2 5),
  (5, cr_calVh D kc l (cr_W0 s0) s0.heap.size 0 y_C_end cw_C_end hdl d mc ms 2 5 8),
  (8, cr_i2l 9),
  (9, cr_last D kc s0.heap.size (ca 1) 10),
  (10, cr_goto 17),
  (13, cr_astore 4 15),
  (15, cr_push (.int 1) 16),
  (16, cr_iret mc ms),
  (17, cr_push (.int 0) 18),
  (18, cr_iret mc ms)]
theorem u_L_end {s0 : State} {D : va_G} {ca : Nat → ClassId} {e0 : Nat} (Z : cr_Z0 s0 D ca e0) : ∀ V, cr_W0 s0 V → (cw_L_end).before #[] V = true ∧ (Cond.initialized (y_L_end).cls).before #[] V = true := fun V hU => ⟨cr_w Z w_605 rfl hU #[], cr_w Z w_0 rfl hU #[]⟩
set_option maxHeartbeats 4000000 in
set_option maxRecDepth 20000 in
theorem s_L_end {p : Program} {l : Launch} {e : Env} {R : Room} {s : State} {m : MethodId} {args : Array Value} {below : List Frame} {meth : Method} {c : Code} {s0 : State} {D : va_G} {ca : Nat → ClassId} {e0 d mc ms : Nat} {Q : cr_Q} {hdl : Nat → Option Nat} (Z : cr_Z0 s0 D ca e0) (C : cr_C p R s m meth c (cr_W0 s0) s0.heap.size y_L_end c_L_end 5 (Option.some FieldType.int) d mc ms)
    (hcat : ∀ kd hp (cell : Cell), hdl kd = some hp → s.vm.findClass (cr_ex kd) = some cell.cls → ∀ {T' : State} {locs' : List Loc} {k' n' : Nat}, Stand p l e R s m args below meth c T' locs' k' n' → ∃ pre x rest, c.exceptionTable.toList = pre ++ x :: rest ∧ (∀ y ∈ pre, ct_P e.platform s m.cls 5 cell.cls y) ∧ covers x 5 = true ∧ ct_K e.platform s m.cls cell.cls x ∧ x.handlerPc = hp) :
    ∀ x ∈ t_L_end l s0 D ca hdl d mc ms, cr_Snd p l e R s m args below meth c s0.heap.size mc ms Q x.1 x.2 := by
  obtain ⟨hx, hb, hml, hown, hr, hlk, hnm, hU, hlo, hR⟩ := C
  have hK := cr_Z0K Z hU
  have hRc : R.cells = mc := by rw [hR]; rfl
  have hRs : R.slots = ms := by rw [hR]; rfl
  unfold t_L_end
  refine cr_cons (cr_aload_n_ok hx hb d_L_end_0 rfl rfl) ?_
  refine cr_cons (cr_iconst_ok hx hb d_L_end_1 (by decide) rfl) ?_
  refine cr_cons (cr_aload_n_ok hx hb d_L_end_2 rfl rfl) ?_
  refine cr_cons (cr_iload_n_ok hx hb d_L_end_3 rfl rfl) ?_
  refine cr_cons (cr_iload_n_ok hx hb d_L_end_4 rfl rfl) ?_
  refine cr_cons (cr_calVh_ok (C := R_C) (Tf := T_C) (N := 10) hx hb hml hown hU hlo hR (cr_W0_st s0) hcat hK rfl (u_C_end Z) (cr_w Z w_606 rfl hU args) (cr_w Z w_607 rfl hU args) (cr_w Z w_608 rfl hU args) (by decide) (by decide +kernel) (by decide) d_L_end_5 rfl) ?_
  refine cr_cons (cr_i2l_ok hx hb d_L_end_8 rfl) ?_
  refine cr_cons (cr_last_ok (t0 := 1) hx hb hK rfl d_L_end_9 rfl) ?_
  refine cr_cons (cr_goto_ok hx hb d_L_end_10 (by decide)) ?_
  refine cr_cons (cr_astore_ok hx hb d_L_end_13 rfl) ?_
  refine cr_cons (cr_iconst_ok hx hb d_L_end_15 (by decide) rfl) ?_
  refine cr_cons (cr_iret_ok hx hb hr hlk d_L_end_16) ?_
  refine cr_cons (cr_iconst_ok hx hb d_L_end_17 (by decide) rfl) ?_
  refine cr_cons (cr_iret_ok hx hb hr hlk d_L_end_18) ?_
  exact cr_nil
theorem d_L_lost_0 : decode c_L_lost 0 = .ok (.aload_n 3, 1) := by decide +kernel
theorem d_L_lost_1 : decode c_L_lost 1 = .ok (.iconst 0, 1) := by decide +kernel
theorem d_L_lost_2 : decode c_L_lost 2 = .ok (.aload_n 0, 1) := by decide +kernel
theorem d_L_lost_3 : decode c_L_lost 3 = .ok (.iload_n 1, 1) := by decide +kernel
theorem d_L_lost_4 : decode c_L_lost 4 = .ok (.iload_n 2, 1) := by decide +kernel
theorem d_L_lost_5 : decode c_L_lost 5 = .ok (.invokevirtual 34, 3) := by decide +kernel
theorem d_L_lost_8 : decode c_L_lost 8 = .ok (.i2l, 1) := by decide +kernel
theorem d_L_lost_9 : decode c_L_lost 9 = .ok (.lastore, 1) := by decide +kernel
theorem d_L_lost_10 : decode c_L_lost 10 = .ok (.goto 7, 3) := by decide +kernel
theorem d_L_lost_13 : decode c_L_lost 13 = .ok (.astore 4, 2) := by decide +kernel
theorem d_L_lost_15 : decode c_L_lost 15 = .ok (.iconst 1, 1) := by decide +kernel
theorem d_L_lost_16 : decode c_L_lost 16 = .ok (.ireturn, 1) := by decide +kernel
theorem d_L_lost_17 : decode c_L_lost 17 = .ok (.iconst 0, 1) := by decide +kernel
theorem d_L_lost_18 : decode c_L_lost 18 = .ok (.ireturn, 1) := by decide +kernel
def t_L_lost (l : Launch) (s0 : State) (D : va_G) (ca : Nat → ClassId) (hdl : Nat → Option Nat) (d mc ms : Nat) : List (Nat × cr_T) := [(0, cr_aload 3 1),
  (1, cr_push (.int 0) 2),
  (2, cr_aload 0 3),
  (3, cr_iload 1 4),
  (4, cr_iload 2 5),
  (5, cr_calVh D kc l (cr_W0 s0) s0.heap.size 0 y_C_lost cw_C_lost hdl d mc ms 2 5 8),
  (8, cr_i2l 9),
  (9, cr_last D kc s0.heap.size (ca 1) 10),
  (10, cr_goto 17),
  (13, cr_astore 4 15),
  (15, cr_push (.int 1) 16),
  (16, cr_iret mc ms),
  (17, cr_push (.int 0) 18),
  (18, cr_iret mc ms)]
theorem u_L_lost {s0 : State} {D : va_G} {ca : Nat → ClassId} {e0 : Nat} (Z : cr_Z0 s0 D ca e0) : ∀ V, cr_W0 s0 V → (cw_L_lost).before #[] V = true ∧ (Cond.initialized (y_L_lost).cls).before #[] V = true := fun V hU => ⟨cr_w Z w_613 rfl hU #[], cr_w Z w_0 rfl hU #[]⟩
set_option maxHeartbeats 4000000 in
set_option maxRecDepth 20000 in
theorem s_L_lost {p : Program} {l : Launch} {e : Env} {R : Room} {s : State} {m : MethodId} {args : Array Value} {below : List Frame} {meth : Method} {c : Code} {s0 : State} {D : va_G} {ca : Nat → ClassId} {e0 d mc ms : Nat} {Q : cr_Q} {hdl : Nat → Option Nat} (Z : cr_Z0 s0 D ca e0) (C : cr_C p R s m meth c (cr_W0 s0) s0.heap.size y_L_lost c_L_lost 5 (Option.some FieldType.int) d mc ms)
    (hcat : ∀ kd hp (cell : Cell), hdl kd = some hp → s.vm.findClass (cr_ex kd) = some cell.cls → ∀ {T' : State} {locs' : List Loc} {k' n' : Nat}, Stand p l e R s m args below meth c T' locs' k' n' → ∃ pre x rest, c.exceptionTable.toList = pre ++ x :: rest ∧ (∀ y ∈ pre, ct_P e.platform s m.cls 5 cell.cls y) ∧ covers x 5 = true ∧ ct_K e.platform s m.cls cell.cls x ∧ x.handlerPc = hp) :
    ∀ x ∈ t_L_lost l s0 D ca hdl d mc ms, cr_Snd p l e R s m args below meth c s0.heap.size mc ms Q x.1 x.2 := by
  obtain ⟨hx, hb, hml, hown, hr, hlk, hnm, hU, hlo, hR⟩ := C
  have hK := cr_Z0K Z hU
  have hRc : R.cells = mc := by rw [hR]; rfl
  have hRs : R.slots = ms := by rw [hR]; rfl
  unfold t_L_lost
  refine cr_cons (cr_aload_n_ok hx hb d_L_lost_0 rfl rfl) ?_
  refine cr_cons (cr_iconst_ok hx hb d_L_lost_1 (by decide) rfl) ?_
  refine cr_cons (cr_aload_n_ok hx hb d_L_lost_2 rfl rfl) ?_
  refine cr_cons (cr_iload_n_ok hx hb d_L_lost_3 rfl rfl) ?_
  refine cr_cons (cr_iload_n_ok hx hb d_L_lost_4 rfl rfl) ?_
  refine cr_cons (cr_calVh_ok (C := R_C) (Tf := T_C) (N := 10) hx hb hml hown hU hlo hR (cr_W0_st s0) hcat hK rfl (u_C_lost Z) (cr_w Z w_614 rfl hU args) (cr_w Z w_615 rfl hU args) (cr_w Z w_616 rfl hU args) (by decide) (by decide +kernel) (by decide) d_L_lost_5 rfl) ?_
  refine cr_cons (cr_i2l_ok hx hb d_L_lost_8 rfl) ?_
  refine cr_cons (cr_last_ok (t0 := 1) hx hb hK rfl d_L_lost_9 rfl) ?_
  refine cr_cons (cr_goto_ok hx hb d_L_lost_10 (by decide)) ?_
  refine cr_cons (cr_astore_ok hx hb d_L_lost_13 rfl) ?_
  refine cr_cons (cr_iconst_ok hx hb d_L_lost_15 (by decide) rfl) ?_
  refine cr_cons (cr_iret_ok hx hb hr hlk d_L_lost_16) ?_
  refine cr_cons (cr_iconst_ok hx hb d_L_lost_17 (by decide) rfl) ?_
  refine cr_cons (cr_iret_ok hx hb hr hlk d_L_lost_18) ?_
  exact cr_nil
theorem d_L_two_0 : decode c_L_two 0 = .ok (.aload_n 3, 1) := by decide +kernel
theorem d_L_two_1 : decode c_L_two 1 = .ok (.iconst 0, 1) := by decide +kernel
theorem d_L_two_2 : decode c_L_two 2 = .ok (.aload_n 0, 1) := by decide +kernel
theorem d_L_two_3 : decode c_L_two 3 = .ok (.iload_n 1, 1) := by decide +kernel
theorem d_L_two_4 : decode c_L_two 4 = .ok (.iload_n 2, 1) := by decide +kernel
theorem d_L_two_5 : decode c_L_two 5 = .ok (.invokevirtual 37, 3) := by decide +kernel
theorem d_L_two_8 : decode c_L_two 8 = .ok (.ifCond .eq 7, 3) := by decide +kernel
theorem d_L_two_11 : decode c_L_two 11 = .ok (.lconst 1, 1) := by decide +kernel
theorem d_L_two_12 : decode c_L_two 12 = .ok (.goto 4, 3) := by decide +kernel
theorem d_L_two_15 : decode c_L_two 15 = .ok (.lconst 0, 1) := by decide +kernel
theorem d_L_two_16 : decode c_L_two 16 = .ok (.lastore, 1) := by decide +kernel
theorem d_L_two_17 : decode c_L_two 17 = .ok (.goto 7, 3) := by decide +kernel
theorem d_L_two_20 : decode c_L_two 20 = .ok (.astore 4, 2) := by decide +kernel
theorem d_L_two_22 : decode c_L_two 22 = .ok (.iconst 1, 1) := by decide +kernel
theorem d_L_two_23 : decode c_L_two 23 = .ok (.ireturn, 1) := by decide +kernel
theorem d_L_two_24 : decode c_L_two 24 = .ok (.iconst 0, 1) := by decide +kernel
theorem d_L_two_25 : decode c_L_two 25 = .ok (.ireturn, 1) := by decide +kernel
def t_L_two (l : Launch) (s0 : State) (D : va_G) (ca : Nat → ClassId) (hdl : Nat → Option Nat) (d mc ms : Nat) : List (Nat × cr_T) := [(0, cr_aload 3 1),
  (1, cr_push (.int 0) 2),
  (2, cr_aload 0 3),
  (3, cr_iload 1 4),
  (4, cr_iload 2 5),
  (5, cr_calVh D kc l (cr_W0 s0) s0.heap.size 0 y_C_two cw_C_two hdl d mc ms 2 5 8),
  (8, cr_ifeq 15 11),
  (11, cr_push (.long 1) 12),
  (12, cr_goto 16),
  (15, cr_push (.long 0) 16),
  (16, cr_last D kc s0.heap.size (ca 1) 17),
  (17, cr_goto 24),
  (20, cr_astore 4 22),
  (22, cr_push (.int 1) 23),
  (23, cr_iret mc ms),
  (24, cr_push (.int 0) 25),
  (25, cr_iret mc ms)]
theorem u_L_two {s0 : State} {D : va_G} {ca : Nat → ClassId} {e0 : Nat} (Z : cr_Z0 s0 D ca e0) : ∀ V, cr_W0 s0 V → (cw_L_two).before #[] V = true ∧ (Cond.initialized (y_L_two).cls).before #[] V = true := fun V hU => ⟨cr_w Z w_625 rfl hU #[], cr_w Z w_0 rfl hU #[]⟩
set_option maxHeartbeats 4000000 in
set_option maxRecDepth 20000 in
theorem s_L_two {p : Program} {l : Launch} {e : Env} {R : Room} {s : State} {m : MethodId} {args : Array Value} {below : List Frame} {meth : Method} {c : Code} {s0 : State} {D : va_G} {ca : Nat → ClassId} {e0 d mc ms : Nat} {Q : cr_Q} {hdl : Nat → Option Nat} (Z : cr_Z0 s0 D ca e0) (C : cr_C p R s m meth c (cr_W0 s0) s0.heap.size y_L_two c_L_two 5 (Option.some FieldType.int) d mc ms)
    (hcat : ∀ kd hp (cell : Cell), hdl kd = some hp → s.vm.findClass (cr_ex kd) = some cell.cls → ∀ {T' : State} {locs' : List Loc} {k' n' : Nat}, Stand p l e R s m args below meth c T' locs' k' n' → ∃ pre x rest, c.exceptionTable.toList = pre ++ x :: rest ∧ (∀ y ∈ pre, ct_P e.platform s m.cls 5 cell.cls y) ∧ covers x 5 = true ∧ ct_K e.platform s m.cls cell.cls x ∧ x.handlerPc = hp) :
    ∀ x ∈ t_L_two l s0 D ca hdl d mc ms, cr_Snd p l e R s m args below meth c s0.heap.size mc ms Q x.1 x.2 := by
  obtain ⟨hx, hb, hml, hown, hr, hlk, hnm, hU, hlo, hR⟩ := C
  have hK := cr_Z0K Z hU
  have hRc : R.cells = mc := by rw [hR]; rfl
  have hRs : R.slots = ms := by rw [hR]; rfl
  unfold t_L_two
  refine cr_cons (cr_aload_n_ok hx hb d_L_two_0 rfl rfl) ?_
  refine cr_cons (cr_iconst_ok hx hb d_L_two_1 (by decide) rfl) ?_
  refine cr_cons (cr_aload_n_ok hx hb d_L_two_2 rfl rfl) ?_
  refine cr_cons (cr_iload_n_ok hx hb d_L_two_3 rfl rfl) ?_
  refine cr_cons (cr_iload_n_ok hx hb d_L_two_4 rfl rfl) ?_
  refine cr_cons (cr_calVh_ok (C := R_C) (Tf := T_C) (N := 10) hx hb hml hown hU hlo hR (cr_W0_st s0) hcat hK rfl (u_C_two Z) (cr_w Z w_626 rfl hU args) (cr_w Z w_627 rfl hU args) (cr_w Z w_628 rfl hU args) (by decide) (by decide +kernel) (by decide) d_L_two_5 rfl) ?_
  refine cr_cons (cr_ifeq_ok hx hb d_L_two_8 (by decide) rfl) ?_
  refine cr_cons (cr_lconst_ok hx hb d_L_two_11 (by decide) rfl) ?_
  refine cr_cons (cr_goto_ok hx hb d_L_two_12 (by decide)) ?_
  refine cr_cons (cr_lconst_ok hx hb d_L_two_15 (by decide) rfl) ?_
  refine cr_cons (cr_last_ok (t0 := 1) hx hb hK rfl d_L_two_16 rfl) ?_
  refine cr_cons (cr_goto_ok hx hb d_L_two_17 (by decide)) ?_
  refine cr_cons (cr_astore_ok hx hb d_L_two_20 rfl) ?_
  refine cr_cons (cr_iconst_ok hx hb d_L_two_22 (by decide) rfl) ?_
  refine cr_cons (cr_iret_ok hx hb hr hlk d_L_two_23) ?_
  refine cr_cons (cr_iconst_ok hx hb d_L_two_24 (by decide) rfl) ?_
  refine cr_cons (cr_iret_ok hx hb hr hlk d_L_two_25) ?_
  exact cr_nil
theorem d_L_airlock_0 : decode c_L_airlock 0 = .ok (.aload 4, 2) := by decide +kernel
theorem d_L_airlock_2 : decode c_L_airlock 2 = .ok (.iconst 0, 1) := by decide +kernel
theorem d_L_airlock_3 : decode c_L_airlock 3 = .ok (.aload_n 0, 1) := by decide +kernel
theorem d_L_airlock_4 : decode c_L_airlock 4 = .ok (.iload_n 1, 1) := by decide +kernel
theorem d_L_airlock_5 : decode c_L_airlock 5 = .ok (.iload_n 2, 1) := by decide +kernel
theorem d_L_airlock_6 : decode c_L_airlock 6 = .ok (.iload_n 3, 1) := by decide +kernel
theorem d_L_airlock_7 : decode c_L_airlock 7 = .ok (.invokevirtual 41, 3) := by decide +kernel
theorem d_L_airlock_10 : decode c_L_airlock 10 = .ok (.ifCond .eq 7, 3) := by decide +kernel
theorem d_L_airlock_13 : decode c_L_airlock 13 = .ok (.lconst 1, 1) := by decide +kernel
theorem d_L_airlock_14 : decode c_L_airlock 14 = .ok (.goto 4, 3) := by decide +kernel
theorem d_L_airlock_17 : decode c_L_airlock 17 = .ok (.lconst 0, 1) := by decide +kernel
theorem d_L_airlock_18 : decode c_L_airlock 18 = .ok (.lastore, 1) := by decide +kernel
theorem d_L_airlock_19 : decode c_L_airlock 19 = .ok (.goto 7, 3) := by decide +kernel
theorem d_L_airlock_22 : decode c_L_airlock 22 = .ok (.astore 5, 2) := by decide +kernel
theorem d_L_airlock_24 : decode c_L_airlock 24 = .ok (.iconst 1, 1) := by decide +kernel
theorem d_L_airlock_25 : decode c_L_airlock 25 = .ok (.ireturn, 1) := by decide +kernel
theorem d_L_airlock_26 : decode c_L_airlock 26 = .ok (.iconst 0, 1) := by decide +kernel
theorem d_L_airlock_27 : decode c_L_airlock 27 = .ok (.ireturn, 1) := by decide +kernel
def t_L_airlock (l : Launch) (s0 : State) (D : va_G) (ca : Nat → ClassId) (hdl : Nat → Option Nat) (d mc ms : Nat) : List (Nat × cr_T) := [(0, cr_aload 4 2),
  (2, cr_push (.int 0) 3),
  (3, cr_aload 0 4),
  (4, cr_iload 1 5),
  (5, cr_iload 2 6),
  (6, cr_iload 3 7),
  (7, cr_calVh D kc l (cr_W0 s0) s0.heap.size 0 y_C_airlock cw_C_airlock hdl d mc ms 3 6 10),
  (10, cr_ifeq 17 13),
  (13, cr_push (.long 1) 14),
  (14, cr_goto 18),
  (17, cr_push (.long 0) 18),
  (18, cr_last D kc s0.heap.size (ca 1) 19),
  (19, cr_goto 26),
  (22, cr_astore 5 24),
  (24, cr_push (.int 1) 25),
  (25, cr_iret mc ms),
  (26, cr_push (.int 0) 27),
  (27, cr_iret mc ms)]
theorem u_L_airlock {s0 : State} {D : va_G} {ca : Nat → ClassId} {e0 : Nat} (Z : cr_Z0 s0 D ca e0) : ∀ V, cr_W0 s0 V → (cw_L_airlock).before #[] V = true ∧ (Cond.initialized (y_L_airlock).cls).before #[] V = true := fun V hU => ⟨cr_w Z w_637 rfl hU #[], cr_w Z w_0 rfl hU #[]⟩
set_option maxHeartbeats 4000000 in
set_option maxRecDepth 20000 in
theorem s_L_airlock {p : Program} {l : Launch} {e : Env} {R : Room} {s : State} {m : MethodId} {args : Array Value} {below : List Frame} {meth : Method} {c : Code} {s0 : State} {D : va_G} {ca : Nat → ClassId} {e0 d mc ms : Nat} {Q : cr_Q} {hdl : Nat → Option Nat} (Z : cr_Z0 s0 D ca e0) (C : cr_C p R s m meth c (cr_W0 s0) s0.heap.size y_L_airlock c_L_airlock 6 (Option.some FieldType.int) d mc ms)
    (hcat : ∀ kd hp (cell : Cell), hdl kd = some hp → s.vm.findClass (cr_ex kd) = some cell.cls → ∀ {T' : State} {locs' : List Loc} {k' n' : Nat}, Stand p l e R s m args below meth c T' locs' k' n' → ∃ pre x rest, c.exceptionTable.toList = pre ++ x :: rest ∧ (∀ y ∈ pre, ct_P e.platform s m.cls 7 cell.cls y) ∧ covers x 7 = true ∧ ct_K e.platform s m.cls cell.cls x ∧ x.handlerPc = hp) :
    ∀ x ∈ t_L_airlock l s0 D ca hdl d mc ms, cr_Snd p l e R s m args below meth c s0.heap.size mc ms Q x.1 x.2 := by
  obtain ⟨hx, hb, hml, hown, hr, hlk, hnm, hU, hlo, hR⟩ := C
  have hK := cr_Z0K Z hU
  have hRc : R.cells = mc := by rw [hR]; rfl
  have hRs : R.slots = ms := by rw [hR]; rfl
  unfold t_L_airlock
  refine cr_cons (cr_aload_ok hx hb d_L_airlock_0 rfl) ?_
  refine cr_cons (cr_iconst_ok hx hb d_L_airlock_2 (by decide) rfl) ?_
  refine cr_cons (cr_aload_n_ok hx hb d_L_airlock_3 rfl rfl) ?_
  refine cr_cons (cr_iload_n_ok hx hb d_L_airlock_4 rfl rfl) ?_
  refine cr_cons (cr_iload_n_ok hx hb d_L_airlock_5 rfl rfl) ?_
  refine cr_cons (cr_iload_n_ok hx hb d_L_airlock_6 rfl rfl) ?_
  refine cr_cons (cr_calVh_ok (C := R_C) (Tf := T_C) (N := 10) hx hb hml hown hU hlo hR (cr_W0_st s0) hcat hK rfl (u_C_airlock Z) (cr_w Z w_638 rfl hU args) (cr_w Z w_639 rfl hU args) (cr_w Z w_640 rfl hU args) (by decide) (by decide +kernel) (by decide) d_L_airlock_7 rfl) ?_
  refine cr_cons (cr_ifeq_ok hx hb d_L_airlock_10 (by decide) rfl) ?_
  refine cr_cons (cr_lconst_ok hx hb d_L_airlock_13 (by decide) rfl) ?_
  refine cr_cons (cr_goto_ok hx hb d_L_airlock_14 (by decide)) ?_
  refine cr_cons (cr_lconst_ok hx hb d_L_airlock_17 (by decide) rfl) ?_
  refine cr_cons (cr_last_ok (t0 := 1) hx hb hK rfl d_L_airlock_18 rfl) ?_
  refine cr_cons (cr_goto_ok hx hb d_L_airlock_19 (by decide)) ?_
  refine cr_cons (cr_astore_ok hx hb d_L_airlock_22 rfl) ?_
  refine cr_cons (cr_iconst_ok hx hb d_L_airlock_24 (by decide) rfl) ?_
  refine cr_cons (cr_iret_ok hx hb hr hlk d_L_airlock_25) ?_
  refine cr_cons (cr_iconst_ok hx hb d_L_airlock_26 (by decide) rfl) ?_
  refine cr_cons (cr_iret_ok hx hb hr hlk d_L_airlock_27) ?_
  exact cr_nil
theorem d_L_state_0 : decode c_L_state 0 = .ok (.aload 4, 2) := by decide +kernel
theorem d_L_state_2 : decode c_L_state 2 = .ok (.iconst 0, 1) := by decide +kernel
theorem d_L_state_3 : decode c_L_state 3 = .ok (.aload_n 0, 1) := by decide +kernel
theorem d_L_state_4 : decode c_L_state 4 = .ok (.iload_n 1, 1) := by decide +kernel
theorem d_L_state_5 : decode c_L_state 5 = .ok (.iload_n 2, 1) := by decide +kernel
theorem d_L_state_6 : decode c_L_state 6 = .ok (.iload_n 3, 1) := by decide +kernel
theorem d_L_state_7 : decode c_L_state 7 = .ok (.invokevirtual 45, 3) := by decide +kernel
theorem d_L_state_10 : decode c_L_state 10 = .ok (.i2l, 1) := by decide +kernel
theorem d_L_state_11 : decode c_L_state 11 = .ok (.lastore, 1) := by decide +kernel
theorem d_L_state_12 : decode c_L_state 12 = .ok (.goto 7, 3) := by decide +kernel
theorem d_L_state_15 : decode c_L_state 15 = .ok (.astore 5, 2) := by decide +kernel
theorem d_L_state_17 : decode c_L_state 17 = .ok (.iconst 1, 1) := by decide +kernel
theorem d_L_state_18 : decode c_L_state 18 = .ok (.ireturn, 1) := by decide +kernel
theorem d_L_state_19 : decode c_L_state 19 = .ok (.iconst 0, 1) := by decide +kernel
theorem d_L_state_20 : decode c_L_state 20 = .ok (.ireturn, 1) := by decide +kernel
def t_L_state (l : Launch) (s0 : State) (D : va_G) (ca : Nat → ClassId) (hdl : Nat → Option Nat) (d mc ms : Nat) : List (Nat × cr_T) := [(0, cr_aload 4 2),
  (2, cr_push (.int 0) 3),
  (3, cr_aload 0 4),
  (4, cr_iload 1 5),
  (5, cr_iload 2 6),
  (6, cr_iload 3 7),
  (7, cr_calVh D kc l (cr_W0 s0) s0.heap.size 0 y_C_state cw_C_state hdl d mc ms 3 6 10),
  (10, cr_i2l 11),
  (11, cr_last D kc s0.heap.size (ca 1) 12),
  (12, cr_goto 19),
  (15, cr_astore 5 17),
  (17, cr_push (.int 1) 18),
  (18, cr_iret mc ms),
  (19, cr_push (.int 0) 20),
  (20, cr_iret mc ms)]
theorem u_L_state {s0 : State} {D : va_G} {ca : Nat → ClassId} {e0 : Nat} (Z : cr_Z0 s0 D ca e0) : ∀ V, cr_W0 s0 V → (cw_L_state).before #[] V = true ∧ (Cond.initialized (y_L_state).cls).before #[] V = true := fun V hU => ⟨cr_w Z w_653 rfl hU #[], cr_w Z w_0 rfl hU #[]⟩
set_option maxHeartbeats 4000000 in
set_option maxRecDepth 20000 in
theorem s_L_state {p : Program} {l : Launch} {e : Env} {R : Room} {s : State} {m : MethodId} {args : Array Value} {below : List Frame} {meth : Method} {c : Code} {s0 : State} {D : va_G} {ca : Nat → ClassId} {e0 d mc ms : Nat} {Q : cr_Q} {hdl : Nat → Option Nat} (Z : cr_Z0 s0 D ca e0) (C : cr_C p R s m meth c (cr_W0 s0) s0.heap.size y_L_state c_L_state 6 (Option.some FieldType.int) d mc ms)
    (hcat : ∀ kd hp (cell : Cell), hdl kd = some hp → s.vm.findClass (cr_ex kd) = some cell.cls → ∀ {T' : State} {locs' : List Loc} {k' n' : Nat}, Stand p l e R s m args below meth c T' locs' k' n' → ∃ pre x rest, c.exceptionTable.toList = pre ++ x :: rest ∧ (∀ y ∈ pre, ct_P e.platform s m.cls 7 cell.cls y) ∧ covers x 7 = true ∧ ct_K e.platform s m.cls cell.cls x ∧ x.handlerPc = hp) :
    ∀ x ∈ t_L_state l s0 D ca hdl d mc ms, cr_Snd p l e R s m args below meth c s0.heap.size mc ms Q x.1 x.2 := by
  obtain ⟨hx, hb, hml, hown, hr, hlk, hnm, hU, hlo, hR⟩ := C
  have hK := cr_Z0K Z hU
  have hRc : R.cells = mc := by rw [hR]; rfl
  have hRs : R.slots = ms := by rw [hR]; rfl
  unfold t_L_state
  refine cr_cons (cr_aload_ok hx hb d_L_state_0 rfl) ?_
  refine cr_cons (cr_iconst_ok hx hb d_L_state_2 (by decide) rfl) ?_
  refine cr_cons (cr_aload_n_ok hx hb d_L_state_3 rfl rfl) ?_
  refine cr_cons (cr_iload_n_ok hx hb d_L_state_4 rfl rfl) ?_
  refine cr_cons (cr_iload_n_ok hx hb d_L_state_5 rfl rfl) ?_
  refine cr_cons (cr_iload_n_ok hx hb d_L_state_6 rfl rfl) ?_
  refine cr_cons (cr_calVh_ok (C := R_C) (Tf := T_C) (N := 10) hx hb hml hown hU hlo hR (cr_W0_st s0) hcat hK rfl (u_C_state Z) (cr_w Z w_654 rfl hU args) (cr_w Z w_655 rfl hU args) (cr_w Z w_656 rfl hU args) (by decide) (by decide +kernel) (by decide) d_L_state_7 rfl) ?_
  refine cr_cons (cr_i2l_ok hx hb d_L_state_10 rfl) ?_
  refine cr_cons (cr_last_ok (t0 := 1) hx hb hK rfl d_L_state_11 rfl) ?_
  refine cr_cons (cr_goto_ok hx hb d_L_state_12 (by decide)) ?_
  refine cr_cons (cr_astore_ok hx hb d_L_state_15 rfl) ?_
  refine cr_cons (cr_iconst_ok hx hb d_L_state_17 (by decide) rfl) ?_
  refine cr_cons (cr_iret_ok hx hb hr hlk d_L_state_18) ?_
  refine cr_cons (cr_iconst_ok hx hb d_L_state_19 (by decide) rfl) ?_
  refine cr_cons (cr_iret_ok hx hb hr hlk d_L_state_20) ?_
  exact cr_nil
theorem d_L_off_0 : decode c_L_off 0 = .ok (.aload_n 3, 1) := by decide +kernel
theorem d_L_off_1 : decode c_L_off 1 = .ok (.iconst 0, 1) := by decide +kernel
theorem d_L_off_2 : decode c_L_off 2 = .ok (.aload_n 0, 1) := by decide +kernel
theorem d_L_off_3 : decode c_L_off 3 = .ok (.iload_n 1, 1) := by decide +kernel
theorem d_L_off_4 : decode c_L_off 4 = .ok (.iload_n 2, 1) := by decide +kernel
theorem d_L_off_5 : decode c_L_off 5 = .ok (.invokevirtual 49, 3) := by decide +kernel
theorem d_L_off_8 : decode c_L_off 8 = .ok (.i2l, 1) := by decide +kernel
theorem d_L_off_9 : decode c_L_off 9 = .ok (.lastore, 1) := by decide +kernel
theorem d_L_off_10 : decode c_L_off 10 = .ok (.goto 7, 3) := by decide +kernel
theorem d_L_off_13 : decode c_L_off 13 = .ok (.astore 4, 2) := by decide +kernel
theorem d_L_off_15 : decode c_L_off 15 = .ok (.iconst 1, 1) := by decide +kernel
theorem d_L_off_16 : decode c_L_off 16 = .ok (.ireturn, 1) := by decide +kernel
theorem d_L_off_17 : decode c_L_off 17 = .ok (.iconst 0, 1) := by decide +kernel
theorem d_L_off_18 : decode c_L_off 18 = .ok (.ireturn, 1) := by decide +kernel
def t_L_off (l : Launch) (s0 : State) (D : va_G) (ca : Nat → ClassId) (hdl : Nat → Option Nat) (d mc ms : Nat) : List (Nat × cr_T) := [(0, cr_aload 3 1),
  (1, cr_push (.int 0) 2),
  (2, cr_aload 0 3),
  (3, cr_iload 1 4),
  (4, cr_iload 2 5),
  (5, cr_calVh D kc l (cr_W0 s0) s0.heap.size 0 y_C_off cw_C_off hdl d mc ms 2 5 8),
  (8, cr_i2l 9),
  (9, cr_last D kc s0.heap.size (ca 1) 10),
  (10, cr_goto 17),
  (13, cr_astore 4 15),
  (15, cr_push (.int 1) 16),
  (16, cr_iret mc ms),
  (17, cr_push (.int 0) 18),
  (18, cr_iret mc ms)]
theorem u_L_off {s0 : State} {D : va_G} {ca : Nat → ClassId} {e0 : Nat} (Z : cr_Z0 s0 D ca e0) : ∀ V, cr_W0 s0 V → (cw_L_off).before #[] V = true ∧ (Cond.initialized (y_L_off).cls).before #[] V = true := fun V hU => ⟨cr_w Z w_665 rfl hU #[], cr_w Z w_0 rfl hU #[]⟩
set_option maxHeartbeats 4000000 in
set_option maxRecDepth 20000 in
theorem s_L_off {p : Program} {l : Launch} {e : Env} {R : Room} {s : State} {m : MethodId} {args : Array Value} {below : List Frame} {meth : Method} {c : Code} {s0 : State} {D : va_G} {ca : Nat → ClassId} {e0 d mc ms : Nat} {Q : cr_Q} {hdl : Nat → Option Nat} (Z : cr_Z0 s0 D ca e0) (C : cr_C p R s m meth c (cr_W0 s0) s0.heap.size y_L_off c_L_off 5 (Option.some FieldType.int) d mc ms)
    (hcat : ∀ kd hp (cell : Cell), hdl kd = some hp → s.vm.findClass (cr_ex kd) = some cell.cls → ∀ {T' : State} {locs' : List Loc} {k' n' : Nat}, Stand p l e R s m args below meth c T' locs' k' n' → ∃ pre x rest, c.exceptionTable.toList = pre ++ x :: rest ∧ (∀ y ∈ pre, ct_P e.platform s m.cls 5 cell.cls y) ∧ covers x 5 = true ∧ ct_K e.platform s m.cls cell.cls x ∧ x.handlerPc = hp) :
    ∀ x ∈ t_L_off l s0 D ca hdl d mc ms, cr_Snd p l e R s m args below meth c s0.heap.size mc ms Q x.1 x.2 := by
  obtain ⟨hx, hb, hml, hown, hr, hlk, hnm, hU, hlo, hR⟩ := C
  have hK := cr_Z0K Z hU
  have hRc : R.cells = mc := by rw [hR]; rfl
  have hRs : R.slots = ms := by rw [hR]; rfl
  unfold t_L_off
  refine cr_cons (cr_aload_n_ok hx hb d_L_off_0 rfl rfl) ?_
  refine cr_cons (cr_iconst_ok hx hb d_L_off_1 (by decide) rfl) ?_
  refine cr_cons (cr_aload_n_ok hx hb d_L_off_2 rfl rfl) ?_
  refine cr_cons (cr_iload_n_ok hx hb d_L_off_3 rfl rfl) ?_
  refine cr_cons (cr_iload_n_ok hx hb d_L_off_4 rfl rfl) ?_
  refine cr_cons (cr_calVh_ok (C := R_C) (Tf := T_C) (N := 10) hx hb hml hown hU hlo hR (cr_W0_st s0) hcat hK rfl (u_C_off Z) (cr_w Z w_666 rfl hU args) (cr_w Z w_667 rfl hU args) (cr_w Z w_668 rfl hU args) (by decide) (by decide +kernel) (by decide) d_L_off_5 rfl) ?_
  refine cr_cons (cr_i2l_ok hx hb d_L_off_8 rfl) ?_
  refine cr_cons (cr_last_ok (t0 := 1) hx hb hK rfl d_L_off_9 rfl) ?_
  refine cr_cons (cr_goto_ok hx hb d_L_off_10 (by decide)) ?_
  refine cr_cons (cr_astore_ok hx hb d_L_off_13 rfl) ?_
  refine cr_cons (cr_iconst_ok hx hb d_L_off_15 (by decide) rfl) ?_
  refine cr_cons (cr_iret_ok hx hb hr hlk d_L_off_16) ?_
  refine cr_cons (cr_iconst_ok hx hb d_L_off_17 (by decide) rfl) ?_
  refine cr_cons (cr_iret_ok hx hb hr hlk d_L_off_18) ?_
  exact cr_nil
theorem d_L_asks_0 : decode c_L_asks 0 = .ok (.aload 5, 2) := by decide +kernel
theorem d_L_asks_2 : decode c_L_asks 2 = .ok (.iconst 0, 1) := by decide +kernel
theorem d_L_asks_3 : decode c_L_asks 3 = .ok (.aload_n 0, 1) := by decide +kernel
theorem d_L_asks_4 : decode c_L_asks 4 = .ok (.iload_n 1, 1) := by decide +kernel
theorem d_L_asks_5 : decode c_L_asks 5 = .ok (.iload_n 2, 1) := by decide +kernel
theorem d_L_asks_6 : decode c_L_asks 6 = .ok (.iload_n 3, 1) := by decide +kernel
theorem d_L_asks_7 : decode c_L_asks 7 = .ok (.iload 4, 2) := by decide +kernel
theorem d_L_asks_9 : decode c_L_asks 9 = .ok (.invokevirtual 53, 3) := by decide +kernel
theorem d_L_asks_12 : decode c_L_asks 12 = .ok (.i2l, 1) := by decide +kernel
theorem d_L_asks_13 : decode c_L_asks 13 = .ok (.lastore, 1) := by decide +kernel
theorem d_L_asks_14 : decode c_L_asks 14 = .ok (.goto 11, 3) := by decide +kernel
theorem d_L_asks_17 : decode c_L_asks 17 = .ok (.astore 6, 2) := by decide +kernel
theorem d_L_asks_19 : decode c_L_asks 19 = .ok (.iconst 1, 1) := by decide +kernel
theorem d_L_asks_20 : decode c_L_asks 20 = .ok (.ireturn, 1) := by decide +kernel
theorem d_L_asks_21 : decode c_L_asks 21 = .ok (.astore 6, 2) := by decide +kernel
theorem d_L_asks_23 : decode c_L_asks 23 = .ok (.iconst 2, 1) := by decide +kernel
theorem d_L_asks_24 : decode c_L_asks 24 = .ok (.ireturn, 1) := by decide +kernel
theorem d_L_asks_25 : decode c_L_asks 25 = .ok (.iconst 0, 1) := by decide +kernel
theorem d_L_asks_26 : decode c_L_asks 26 = .ok (.ireturn, 1) := by decide +kernel
def t_L_asks (l : Launch) (s0 : State) (D : va_G) (ca : Nat → ClassId) (hdl : Nat → Option Nat) (d mc ms : Nat) : List (Nat × cr_T) := [(0, cr_aload 5 2),
  (2, cr_push (.int 0) 3),
  (3, cr_aload 0 4),
  (4, cr_iload 1 5),
  (5, cr_iload 2 6),
  (6, cr_iload 3 7),
  (7, cr_iload 4 9),
  (9, cr_calVh D kc l (cr_W0 s0) s0.heap.size 0 y_C_asks cw_C_asks hdl d mc ms 4 7 12),
  (12, cr_i2l 13),
  (13, cr_last D kc s0.heap.size (ca 1) 14),
  (14, cr_goto 25),
  (17, cr_astore 6 19),
  (19, cr_push (.int 1) 20),
  (20, cr_iret mc ms),
  (21, cr_astore 6 23),
  (23, cr_push (.int 2) 24),
  (24, cr_iret mc ms),
  (25, cr_push (.int 0) 26),
  (26, cr_iret mc ms)]
theorem u_L_asks {s0 : State} {D : va_G} {ca : Nat → ClassId} {e0 : Nat} (Z : cr_Z0 s0 D ca e0) : ∀ V, cr_W0 s0 V → (cw_L_asks).before #[] V = true ∧ (Cond.initialized (y_L_asks).cls).before #[] V = true := fun V hU => ⟨cr_w Z w_721 rfl hU #[], cr_w Z w_0 rfl hU #[]⟩
set_option maxHeartbeats 4000000 in
set_option maxRecDepth 20000 in
theorem s_L_asks {p : Program} {l : Launch} {e : Env} {R : Room} {s : State} {m : MethodId} {args : Array Value} {below : List Frame} {meth : Method} {c : Code} {s0 : State} {D : va_G} {ca : Nat → ClassId} {e0 d mc ms : Nat} {Q : cr_Q} {hdl : Nat → Option Nat} (Z : cr_Z0 s0 D ca e0) (C : cr_C p R s m meth c (cr_W0 s0) s0.heap.size y_L_asks c_L_asks 7 (Option.some FieldType.int) d mc ms)
    (hcat : ∀ kd hp (cell : Cell), hdl kd = some hp → s.vm.findClass (cr_ex kd) = some cell.cls → ∀ {T' : State} {locs' : List Loc} {k' n' : Nat}, Stand p l e R s m args below meth c T' locs' k' n' → ∃ pre x rest, c.exceptionTable.toList = pre ++ x :: rest ∧ (∀ y ∈ pre, ct_P e.platform s m.cls 9 cell.cls y) ∧ covers x 9 = true ∧ ct_K e.platform s m.cls cell.cls x ∧ x.handlerPc = hp) :
    ∀ x ∈ t_L_asks l s0 D ca hdl d mc ms, cr_Snd p l e R s m args below meth c s0.heap.size mc ms Q x.1 x.2 := by
  obtain ⟨hx, hb, hml, hown, hr, hlk, hnm, hU, hlo, hR⟩ := C
  have hK := cr_Z0K Z hU
  have hRc : R.cells = mc := by rw [hR]; rfl
  have hRs : R.slots = ms := by rw [hR]; rfl
  unfold t_L_asks
  refine cr_cons (cr_aload_ok hx hb d_L_asks_0 rfl) ?_
  refine cr_cons (cr_iconst_ok hx hb d_L_asks_2 (by decide) rfl) ?_
  refine cr_cons (cr_aload_n_ok hx hb d_L_asks_3 rfl rfl) ?_
  refine cr_cons (cr_iload_n_ok hx hb d_L_asks_4 rfl rfl) ?_
  refine cr_cons (cr_iload_n_ok hx hb d_L_asks_5 rfl rfl) ?_
  refine cr_cons (cr_iload_n_ok hx hb d_L_asks_6 rfl rfl) ?_
  refine cr_cons (cr_iload_ok hx hb d_L_asks_7 rfl) ?_
  refine cr_cons (cr_calVh_ok (C := R_C) (Tf := T_C) (N := 10) hx hb hml hown hU hlo hR (cr_W0_st s0) hcat hK rfl (u_C_asks Z) (cr_w Z w_722 rfl hU args) (cr_w Z w_723 rfl hU args) (cr_w Z w_724 rfl hU args) (by decide) (by decide +kernel) (by decide) d_L_asks_9 rfl) ?_
  refine cr_cons (cr_i2l_ok hx hb d_L_asks_12 rfl) ?_
  refine cr_cons (cr_last_ok (t0 := 1) hx hb hK rfl d_L_asks_13 rfl) ?_
  refine cr_cons (cr_goto_ok hx hb d_L_asks_14 (by decide)) ?_
  refine cr_cons (cr_astore_ok hx hb d_L_asks_17 rfl) ?_
  refine cr_cons (cr_iconst_ok hx hb d_L_asks_19 (by decide) rfl) ?_
  refine cr_cons (cr_iret_ok hx hb hr hlk d_L_asks_20) ?_
  refine cr_cons (cr_astore_ok hx hb d_L_asks_21 rfl) ?_
  refine cr_cons (cr_iconst_ok hx hb d_L_asks_23 (by decide) rfl) ?_
  refine cr_cons (cr_iret_ok hx hb hr hlk d_L_asks_24) ?_
  refine cr_cons (cr_iconst_ok hx hb d_L_asks_25 (by decide) rfl) ?_
  refine cr_cons (cr_iret_ok hx hb hr hlk d_L_asks_26) ?_
  exact cr_nil
theorem d_L_both_0 : decode c_L_both 0 = .ok (.aload 6, 2) := by decide +kernel
theorem d_L_both_2 : decode c_L_both 2 = .ok (.iconst 0, 1) := by decide +kernel
theorem d_L_both_3 : decode c_L_both 3 = .ok (.aload_n 0, 1) := by decide +kernel
theorem d_L_both_4 : decode c_L_both 4 = .ok (.iload_n 1, 1) := by decide +kernel
theorem d_L_both_5 : decode c_L_both 5 = .ok (.iload_n 2, 1) := by decide +kernel
theorem d_L_both_6 : decode c_L_both 6 = .ok (.iload_n 3, 1) := by decide +kernel
theorem d_L_both_7 : decode c_L_both 7 = .ok (.iload 4, 2) := by decide +kernel
theorem d_L_both_9 : decode c_L_both 9 = .ok (.iload 5, 2) := by decide +kernel
theorem d_L_both_11 : decode c_L_both 11 = .ok (.invokevirtual 57, 3) := by decide +kernel
theorem d_L_both_14 : decode c_L_both 14 = .ok (.i2l, 1) := by decide +kernel
theorem d_L_both_15 : decode c_L_both 15 = .ok (.lastore, 1) := by decide +kernel
theorem d_L_both_16 : decode c_L_both 16 = .ok (.goto 11, 3) := by decide +kernel
theorem d_L_both_19 : decode c_L_both 19 = .ok (.astore 7, 2) := by decide +kernel
theorem d_L_both_21 : decode c_L_both 21 = .ok (.iconst 1, 1) := by decide +kernel
theorem d_L_both_22 : decode c_L_both 22 = .ok (.ireturn, 1) := by decide +kernel
theorem d_L_both_23 : decode c_L_both 23 = .ok (.astore 7, 2) := by decide +kernel
theorem d_L_both_25 : decode c_L_both 25 = .ok (.iconst 2, 1) := by decide +kernel
theorem d_L_both_26 : decode c_L_both 26 = .ok (.ireturn, 1) := by decide +kernel
theorem d_L_both_27 : decode c_L_both 27 = .ok (.iconst 0, 1) := by decide +kernel
theorem d_L_both_28 : decode c_L_both 28 = .ok (.ireturn, 1) := by decide +kernel
def t_L_both (l : Launch) (s0 : State) (D : va_G) (ca : Nat → ClassId) (hdl : Nat → Option Nat) (d mc ms : Nat) : List (Nat × cr_T) := [(0, cr_aload 6 2),
  (2, cr_push (.int 0) 3),
  (3, cr_aload 0 4),
  (4, cr_iload 1 5),
  (5, cr_iload 2 6),
  (6, cr_iload 3 7),
  (7, cr_iload 4 9),
  (9, cr_iload 5 11),
  (11, cr_calVh D kc l (cr_W0 s0) s0.heap.size 0 y_C_both cw_C_both hdl d mc ms 5 8 14),
  (14, cr_i2l 15),
  (15, cr_last D kc s0.heap.size (ca 1) 16),
  (16, cr_goto 27),
  (19, cr_astore 7 21),
  (21, cr_push (.int 1) 22),
  (22, cr_iret mc ms),
  (23, cr_astore 7 25),
  (25, cr_push (.int 2) 26),
  (26, cr_iret mc ms),
  (27, cr_push (.int 0) 28),
  (28, cr_iret mc ms)]
theorem u_L_both {s0 : State} {D : va_G} {ca : Nat → ClassId} {e0 : Nat} (Z : cr_Z0 s0 D ca e0) : ∀ V, cr_W0 s0 V → (cw_L_both).before #[] V = true ∧ (Cond.initialized (y_L_both).cls).before #[] V = true := fun V hU => ⟨cr_w Z w_774 rfl hU #[], cr_w Z w_0 rfl hU #[]⟩
set_option maxHeartbeats 4000000 in
set_option maxRecDepth 20000 in
theorem s_L_both {p : Program} {l : Launch} {e : Env} {R : Room} {s : State} {m : MethodId} {args : Array Value} {below : List Frame} {meth : Method} {c : Code} {s0 : State} {D : va_G} {ca : Nat → ClassId} {e0 d mc ms : Nat} {Q : cr_Q} {hdl : Nat → Option Nat} (Z : cr_Z0 s0 D ca e0) (C : cr_C p R s m meth c (cr_W0 s0) s0.heap.size y_L_both c_L_both 8 (Option.some FieldType.int) d mc ms)
    (hcat : ∀ kd hp (cell : Cell), hdl kd = some hp → s.vm.findClass (cr_ex kd) = some cell.cls → ∀ {T' : State} {locs' : List Loc} {k' n' : Nat}, Stand p l e R s m args below meth c T' locs' k' n' → ∃ pre x rest, c.exceptionTable.toList = pre ++ x :: rest ∧ (∀ y ∈ pre, ct_P e.platform s m.cls 11 cell.cls y) ∧ covers x 11 = true ∧ ct_K e.platform s m.cls cell.cls x ∧ x.handlerPc = hp) :
    ∀ x ∈ t_L_both l s0 D ca hdl d mc ms, cr_Snd p l e R s m args below meth c s0.heap.size mc ms Q x.1 x.2 := by
  obtain ⟨hx, hb, hml, hown, hr, hlk, hnm, hU, hlo, hR⟩ := C
  have hK := cr_Z0K Z hU
  have hRc : R.cells = mc := by rw [hR]; rfl
  have hRs : R.slots = ms := by rw [hR]; rfl
  unfold t_L_both
  refine cr_cons (cr_aload_ok hx hb d_L_both_0 rfl) ?_
  refine cr_cons (cr_iconst_ok hx hb d_L_both_2 (by decide) rfl) ?_
  refine cr_cons (cr_aload_n_ok hx hb d_L_both_3 rfl rfl) ?_
  refine cr_cons (cr_iload_n_ok hx hb d_L_both_4 rfl rfl) ?_
  refine cr_cons (cr_iload_n_ok hx hb d_L_both_5 rfl rfl) ?_
  refine cr_cons (cr_iload_n_ok hx hb d_L_both_6 rfl rfl) ?_
  refine cr_cons (cr_iload_ok hx hb d_L_both_7 rfl) ?_
  refine cr_cons (cr_iload_ok hx hb d_L_both_9 rfl) ?_
  refine cr_cons (cr_calVh_ok (C := R_C) (Tf := T_C) (N := 10) hx hb hml hown hU hlo hR (cr_W0_st s0) hcat hK rfl (u_C_both Z) (cr_w Z w_775 rfl hU args) (cr_w Z w_776 rfl hU args) (cr_w Z w_777 rfl hU args) (by decide) (by decide +kernel) (by decide) d_L_both_11 rfl) ?_
  refine cr_cons (cr_i2l_ok hx hb d_L_both_14 rfl) ?_
  refine cr_cons (cr_last_ok (t0 := 1) hx hb hK rfl d_L_both_15 rfl) ?_
  refine cr_cons (cr_goto_ok hx hb d_L_both_16 (by decide)) ?_
  refine cr_cons (cr_astore_ok hx hb d_L_both_19 rfl) ?_
  refine cr_cons (cr_iconst_ok hx hb d_L_both_21 (by decide) rfl) ?_
  refine cr_cons (cr_iret_ok hx hb hr hlk d_L_both_22) ?_
  refine cr_cons (cr_astore_ok hx hb d_L_both_23 rfl) ?_
  refine cr_cons (cr_iconst_ok hx hb d_L_both_25 (by decide) rfl) ?_
  refine cr_cons (cr_iret_ok hx hb hr hlk d_L_both_26) ?_
  refine cr_cons (cr_iconst_ok hx hb d_L_both_27 (by decide) rfl) ?_
  refine cr_cons (cr_iret_ok hx hb hr hlk d_L_both_28) ?_
  exact cr_nil
theorem d_L_where_0 : decode c_L_where 0 = .ok (.aload_n 2, 1) := by decide +kernel
theorem d_L_where_1 : decode c_L_where 1 = .ok (.iconst 0, 1) := by decide +kernel
theorem d_L_where_2 : decode c_L_where 2 = .ok (.aload_n 0, 1) := by decide +kernel
theorem d_L_where_3 : decode c_L_where 3 = .ok (.iload_n 1, 1) := by decide +kernel
theorem d_L_where_4 : decode c_L_where 4 = .ok (.invokevirtual 60, 3) := by decide +kernel
theorem d_L_where_7 : decode c_L_where 7 = .ok (.i2l, 1) := by decide +kernel
theorem d_L_where_8 : decode c_L_where 8 = .ok (.lastore, 1) := by decide +kernel
theorem d_L_where_9 : decode c_L_where 9 = .ok (.goto 6, 3) := by decide +kernel
theorem d_L_where_12 : decode c_L_where 12 = .ok (.astore_n 3, 1) := by decide +kernel
theorem d_L_where_13 : decode c_L_where 13 = .ok (.iconst 1, 1) := by decide +kernel
theorem d_L_where_14 : decode c_L_where 14 = .ok (.ireturn, 1) := by decide +kernel
theorem d_L_where_15 : decode c_L_where 15 = .ok (.iconst 0, 1) := by decide +kernel
theorem d_L_where_16 : decode c_L_where 16 = .ok (.ireturn, 1) := by decide +kernel
def t_L_where (l : Launch) (s0 : State) (D : va_G) (ca : Nat → ClassId) (hdl : Nat → Option Nat) (d mc ms : Nat) : List (Nat × cr_T) := [(0, cr_aload 2 1),
  (1, cr_push (.int 0) 2),
  (2, cr_aload 0 3),
  (3, cr_iload 1 4),
  (4, cr_calVh D kc l (cr_W0 s0) s0.heap.size 0 y_C_where cw_C_where hdl d mc ms 1 4 7),
  (7, cr_i2l 8),
  (8, cr_last D kc s0.heap.size (ca 1) 9),
  (9, cr_goto 15),
  (12, cr_astore 3 13),
  (13, cr_push (.int 1) 14),
  (14, cr_iret mc ms),
  (15, cr_push (.int 0) 16),
  (16, cr_iret mc ms)]
theorem u_L_where {s0 : State} {D : va_G} {ca : Nat → ClassId} {e0 : Nat} (Z : cr_Z0 s0 D ca e0) : ∀ V, cr_W0 s0 V → (cw_L_where).before #[] V = true ∧ (Cond.initialized (y_L_where).cls).before #[] V = true := fun V hU => ⟨cr_w Z w_782 rfl hU #[], cr_w Z w_0 rfl hU #[]⟩
set_option maxHeartbeats 4000000 in
set_option maxRecDepth 20000 in
theorem s_L_where {p : Program} {l : Launch} {e : Env} {R : Room} {s : State} {m : MethodId} {args : Array Value} {below : List Frame} {meth : Method} {c : Code} {s0 : State} {D : va_G} {ca : Nat → ClassId} {e0 d mc ms : Nat} {Q : cr_Q} {hdl : Nat → Option Nat} (Z : cr_Z0 s0 D ca e0) (C : cr_C p R s m meth c (cr_W0 s0) s0.heap.size y_L_where c_L_where 4 (Option.some FieldType.int) d mc ms)
    (hcat : ∀ kd hp (cell : Cell), hdl kd = some hp → s.vm.findClass (cr_ex kd) = some cell.cls → ∀ {T' : State} {locs' : List Loc} {k' n' : Nat}, Stand p l e R s m args below meth c T' locs' k' n' → ∃ pre x rest, c.exceptionTable.toList = pre ++ x :: rest ∧ (∀ y ∈ pre, ct_P e.platform s m.cls 4 cell.cls y) ∧ covers x 4 = true ∧ ct_K e.platform s m.cls cell.cls x ∧ x.handlerPc = hp) :
    ∀ x ∈ t_L_where l s0 D ca hdl d mc ms, cr_Snd p l e R s m args below meth c s0.heap.size mc ms Q x.1 x.2 := by
  obtain ⟨hx, hb, hml, hown, hr, hlk, hnm, hU, hlo, hR⟩ := C
  have hK := cr_Z0K Z hU
  have hRc : R.cells = mc := by rw [hR]; rfl
  have hRs : R.slots = ms := by rw [hR]; rfl
  unfold t_L_where
  refine cr_cons (cr_aload_n_ok hx hb d_L_where_0 rfl rfl) ?_
  refine cr_cons (cr_iconst_ok hx hb d_L_where_1 (by decide) rfl) ?_
  refine cr_cons (cr_aload_n_ok hx hb d_L_where_2 rfl rfl) ?_
  refine cr_cons (cr_iload_n_ok hx hb d_L_where_3 rfl rfl) ?_
  refine cr_cons (cr_calVh_ok (C := R_C) (Tf := T_C) (N := 10) hx hb hml hown hU hlo hR (cr_W0_st s0) hcat hK rfl (u_C_where Z) (cr_w Z w_783 rfl hU args) (cr_w Z w_784 rfl hU args) (cr_w Z w_785 rfl hU args) (by decide) (by decide +kernel) (by decide) d_L_where_4 rfl) ?_
  refine cr_cons (cr_i2l_ok hx hb d_L_where_7 rfl) ?_
  refine cr_cons (cr_last_ok (t0 := 1) hx hb hK rfl d_L_where_8 rfl) ?_
  refine cr_cons (cr_goto_ok hx hb d_L_where_9 (by decide)) ?_
  refine cr_cons (cr_astore_n_ok hx hb d_L_where_12 rfl rfl) ?_
  refine cr_cons (cr_iconst_ok hx hb d_L_where_13 (by decide) rfl) ?_
  refine cr_cons (cr_iret_ok hx hb hr hlk d_L_where_14) ?_
  refine cr_cons (cr_iconst_ok hx hb d_L_where_15 (by decide) rfl) ?_
  refine cr_cons (cr_iret_ok hx hb hr hlk d_L_where_16) ?_
  exact cr_nil
theorem d_L_inside_0 : decode c_L_inside 0 = .ok (.aload_n 2, 1) := by decide +kernel
theorem d_L_inside_1 : decode c_L_inside 1 = .ok (.iconst 0, 1) := by decide +kernel
theorem d_L_inside_2 : decode c_L_inside 2 = .ok (.aload_n 0, 1) := by decide +kernel
theorem d_L_inside_3 : decode c_L_inside 3 = .ok (.iload_n 1, 1) := by decide +kernel
theorem d_L_inside_4 : decode c_L_inside 4 = .ok (.invokevirtual 63, 3) := by decide +kernel
theorem d_L_inside_7 : decode c_L_inside 7 = .ok (.i2l, 1) := by decide +kernel
theorem d_L_inside_8 : decode c_L_inside 8 = .ok (.lastore, 1) := by decide +kernel
theorem d_L_inside_9 : decode c_L_inside 9 = .ok (.goto 6, 3) := by decide +kernel
theorem d_L_inside_12 : decode c_L_inside 12 = .ok (.astore_n 3, 1) := by decide +kernel
theorem d_L_inside_13 : decode c_L_inside 13 = .ok (.iconst 1, 1) := by decide +kernel
theorem d_L_inside_14 : decode c_L_inside 14 = .ok (.ireturn, 1) := by decide +kernel
theorem d_L_inside_15 : decode c_L_inside 15 = .ok (.iconst 0, 1) := by decide +kernel
theorem d_L_inside_16 : decode c_L_inside 16 = .ok (.ireturn, 1) := by decide +kernel
def t_L_inside (l : Launch) (s0 : State) (D : va_G) (ca : Nat → ClassId) (hdl : Nat → Option Nat) (d mc ms : Nat) : List (Nat × cr_T) := [(0, cr_aload 2 1),
  (1, cr_push (.int 0) 2),
  (2, cr_aload 0 3),
  (3, cr_iload 1 4),
  (4, cr_calVh D kc l (cr_W0 s0) s0.heap.size 0 y_C_inside cw_C_inside hdl d mc ms 1 4 7),
  (7, cr_i2l 8),
  (8, cr_last D kc s0.heap.size (ca 1) 9),
  (9, cr_goto 15),
  (12, cr_astore 3 13),
  (13, cr_push (.int 1) 14),
  (14, cr_iret mc ms),
  (15, cr_push (.int 0) 16),
  (16, cr_iret mc ms)]
theorem u_L_inside {s0 : State} {D : va_G} {ca : Nat → ClassId} {e0 : Nat} (Z : cr_Z0 s0 D ca e0) : ∀ V, cr_W0 s0 V → (cw_L_inside).before #[] V = true ∧ (Cond.initialized (y_L_inside).cls).before #[] V = true := fun V hU => ⟨cr_w Z w_789 rfl hU #[], cr_w Z w_0 rfl hU #[]⟩
set_option maxHeartbeats 4000000 in
set_option maxRecDepth 20000 in
theorem s_L_inside {p : Program} {l : Launch} {e : Env} {R : Room} {s : State} {m : MethodId} {args : Array Value} {below : List Frame} {meth : Method} {c : Code} {s0 : State} {D : va_G} {ca : Nat → ClassId} {e0 d mc ms : Nat} {Q : cr_Q} {hdl : Nat → Option Nat} (Z : cr_Z0 s0 D ca e0) (C : cr_C p R s m meth c (cr_W0 s0) s0.heap.size y_L_inside c_L_inside 4 (Option.some FieldType.int) d mc ms)
    (hcat : ∀ kd hp (cell : Cell), hdl kd = some hp → s.vm.findClass (cr_ex kd) = some cell.cls → ∀ {T' : State} {locs' : List Loc} {k' n' : Nat}, Stand p l e R s m args below meth c T' locs' k' n' → ∃ pre x rest, c.exceptionTable.toList = pre ++ x :: rest ∧ (∀ y ∈ pre, ct_P e.platform s m.cls 4 cell.cls y) ∧ covers x 4 = true ∧ ct_K e.platform s m.cls cell.cls x ∧ x.handlerPc = hp) :
    ∀ x ∈ t_L_inside l s0 D ca hdl d mc ms, cr_Snd p l e R s m args below meth c s0.heap.size mc ms Q x.1 x.2 := by
  obtain ⟨hx, hb, hml, hown, hr, hlk, hnm, hU, hlo, hR⟩ := C
  have hK := cr_Z0K Z hU
  have hRc : R.cells = mc := by rw [hR]; rfl
  have hRs : R.slots = ms := by rw [hR]; rfl
  unfold t_L_inside
  refine cr_cons (cr_aload_n_ok hx hb d_L_inside_0 rfl rfl) ?_
  refine cr_cons (cr_iconst_ok hx hb d_L_inside_1 (by decide) rfl) ?_
  refine cr_cons (cr_aload_n_ok hx hb d_L_inside_2 rfl rfl) ?_
  refine cr_cons (cr_iload_n_ok hx hb d_L_inside_3 rfl rfl) ?_
  refine cr_cons (cr_calVh_ok (C := R_C) (Tf := T_C) (N := 10) hx hb hml hown hU hlo hR (cr_W0_st s0) hcat hK rfl (u_C_inside Z) (cr_w Z w_790 rfl hU args) (cr_w Z w_791 rfl hU args) (cr_w Z w_792 rfl hU args) (by decide) (by decide +kernel) (by decide) d_L_inside_4 rfl) ?_
  refine cr_cons (cr_i2l_ok hx hb d_L_inside_7 rfl) ?_
  refine cr_cons (cr_last_ok (t0 := 1) hx hb hK rfl d_L_inside_8 rfl) ?_
  refine cr_cons (cr_goto_ok hx hb d_L_inside_9 (by decide)) ?_
  refine cr_cons (cr_astore_n_ok hx hb d_L_inside_12 rfl rfl) ?_
  refine cr_cons (cr_iconst_ok hx hb d_L_inside_13 (by decide) rfl) ?_
  refine cr_cons (cr_iret_ok hx hb hr hlk d_L_inside_14) ?_
  refine cr_cons (cr_iconst_ok hx hb d_L_inside_15 (by decide) rfl) ?_
  refine cr_cons (cr_iret_ok hx hb hr hlk d_L_inside_16) ?_
  exact cr_nil
theorem d_L_muster_0 : decode c_L_muster 0 = .ok (.aload_n 3, 1) := by decide +kernel
theorem d_L_muster_1 : decode c_L_muster 1 = .ok (.iconst 0, 1) := by decide +kernel
theorem d_L_muster_2 : decode c_L_muster 2 = .ok (.aload_n 0, 1) := by decide +kernel
theorem d_L_muster_3 : decode c_L_muster 3 = .ok (.iload_n 1, 1) := by decide +kernel
theorem d_L_muster_4 : decode c_L_muster 4 = .ok (.iload_n 2, 1) := by decide +kernel
theorem d_L_muster_5 : decode c_L_muster 5 = .ok (.invokevirtual 66, 3) := by decide +kernel
theorem d_L_muster_8 : decode c_L_muster 8 = .ok (.i2l, 1) := by decide +kernel
theorem d_L_muster_9 : decode c_L_muster 9 = .ok (.lastore, 1) := by decide +kernel
theorem d_L_muster_10 : decode c_L_muster 10 = .ok (.goto 7, 3) := by decide +kernel
theorem d_L_muster_13 : decode c_L_muster 13 = .ok (.astore 4, 2) := by decide +kernel
theorem d_L_muster_15 : decode c_L_muster 15 = .ok (.iconst 1, 1) := by decide +kernel
theorem d_L_muster_16 : decode c_L_muster 16 = .ok (.ireturn, 1) := by decide +kernel
theorem d_L_muster_17 : decode c_L_muster 17 = .ok (.iconst 0, 1) := by decide +kernel
theorem d_L_muster_18 : decode c_L_muster 18 = .ok (.ireturn, 1) := by decide +kernel
def t_L_muster (l : Launch) (s0 : State) (D : va_G) (ca : Nat → ClassId) (hdl : Nat → Option Nat) (d mc ms : Nat) : List (Nat × cr_T) := [(0, cr_aload 3 1),
  (1, cr_push (.int 0) 2),
  (2, cr_aload 0 3),
  (3, cr_iload 1 4),
  (4, cr_iload 2 5),
  (5, cr_calVh D kc l (cr_W0 s0) s0.heap.size 0 y_C_muster cw_C_muster hdl d mc ms 2 5 8),
  (8, cr_i2l 9),
  (9, cr_last D kc s0.heap.size (ca 1) 10),
  (10, cr_goto 17),
  (13, cr_astore 4 15),
  (15, cr_push (.int 1) 16),
  (16, cr_iret mc ms),
  (17, cr_push (.int 0) 18),
  (18, cr_iret mc ms)]
theorem u_L_muster {s0 : State} {D : va_G} {ca : Nat → ClassId} {e0 : Nat} (Z : cr_Z0 s0 D ca e0) : ∀ V, cr_W0 s0 V → (cw_L_muster).before #[] V = true ∧ (Cond.initialized (y_L_muster).cls).before #[] V = true := fun V hU => ⟨cr_w Z w_796 rfl hU #[], cr_w Z w_0 rfl hU #[]⟩
set_option maxHeartbeats 4000000 in
set_option maxRecDepth 20000 in
theorem s_L_muster {p : Program} {l : Launch} {e : Env} {R : Room} {s : State} {m : MethodId} {args : Array Value} {below : List Frame} {meth : Method} {c : Code} {s0 : State} {D : va_G} {ca : Nat → ClassId} {e0 d mc ms : Nat} {Q : cr_Q} {hdl : Nat → Option Nat} (Z : cr_Z0 s0 D ca e0) (C : cr_C p R s m meth c (cr_W0 s0) s0.heap.size y_L_muster c_L_muster 5 (Option.some FieldType.int) d mc ms)
    (hcat : ∀ kd hp (cell : Cell), hdl kd = some hp → s.vm.findClass (cr_ex kd) = some cell.cls → ∀ {T' : State} {locs' : List Loc} {k' n' : Nat}, Stand p l e R s m args below meth c T' locs' k' n' → ∃ pre x rest, c.exceptionTable.toList = pre ++ x :: rest ∧ (∀ y ∈ pre, ct_P e.platform s m.cls 5 cell.cls y) ∧ covers x 5 = true ∧ ct_K e.platform s m.cls cell.cls x ∧ x.handlerPc = hp) :
    ∀ x ∈ t_L_muster l s0 D ca hdl d mc ms, cr_Snd p l e R s m args below meth c s0.heap.size mc ms Q x.1 x.2 := by
  obtain ⟨hx, hb, hml, hown, hr, hlk, hnm, hU, hlo, hR⟩ := C
  have hK := cr_Z0K Z hU
  have hRc : R.cells = mc := by rw [hR]; rfl
  have hRs : R.slots = ms := by rw [hR]; rfl
  unfold t_L_muster
  refine cr_cons (cr_aload_n_ok hx hb d_L_muster_0 rfl rfl) ?_
  refine cr_cons (cr_iconst_ok hx hb d_L_muster_1 (by decide) rfl) ?_
  refine cr_cons (cr_aload_n_ok hx hb d_L_muster_2 rfl rfl) ?_
  refine cr_cons (cr_iload_n_ok hx hb d_L_muster_3 rfl rfl) ?_
  refine cr_cons (cr_iload_n_ok hx hb d_L_muster_4 rfl rfl) ?_
  refine cr_cons (cr_calVh_ok (C := R_C) (Tf := T_C) (N := 10) hx hb hml hown hU hlo hR (cr_W0_st s0) hcat hK rfl (u_C_muster Z) (cr_w Z w_797 rfl hU args) (cr_w Z w_798 rfl hU args) (cr_w Z w_799 rfl hU args) (by decide) (by decide +kernel) (by decide) d_L_muster_5 rfl) ?_
  refine cr_cons (cr_i2l_ok hx hb d_L_muster_8 rfl) ?_
  refine cr_cons (cr_last_ok (t0 := 1) hx hb hK rfl d_L_muster_9 rfl) ?_
  refine cr_cons (cr_goto_ok hx hb d_L_muster_10 (by decide)) ?_
  refine cr_cons (cr_astore_ok hx hb d_L_muster_13 rfl) ?_
  refine cr_cons (cr_iconst_ok hx hb d_L_muster_15 (by decide) rfl) ?_
  refine cr_cons (cr_iret_ok hx hb hr hlk d_L_muster_16) ?_
  refine cr_cons (cr_iconst_ok hx hb d_L_muster_17 (by decide) rfl) ?_
  refine cr_cons (cr_iret_ok hx hb hr hlk d_L_muster_18) ?_
  exact cr_nil
theorem d_L_found_0 : decode c_L_found 0 = .ok (.aload_n 3, 1) := by decide +kernel
theorem d_L_found_1 : decode c_L_found 1 = .ok (.iconst 0, 1) := by decide +kernel
theorem d_L_found_2 : decode c_L_found 2 = .ok (.aload_n 0, 1) := by decide +kernel
theorem d_L_found_3 : decode c_L_found 3 = .ok (.iload_n 1, 1) := by decide +kernel
theorem d_L_found_4 : decode c_L_found 4 = .ok (.iload_n 2, 1) := by decide +kernel
theorem d_L_found_5 : decode c_L_found 5 = .ok (.invokevirtual 69, 3) := by decide +kernel
theorem d_L_found_8 : decode c_L_found 8 = .ok (.i2l, 1) := by decide +kernel
theorem d_L_found_9 : decode c_L_found 9 = .ok (.lastore, 1) := by decide +kernel
theorem d_L_found_10 : decode c_L_found 10 = .ok (.goto 7, 3) := by decide +kernel
theorem d_L_found_13 : decode c_L_found 13 = .ok (.astore 4, 2) := by decide +kernel
theorem d_L_found_15 : decode c_L_found 15 = .ok (.iconst 1, 1) := by decide +kernel
theorem d_L_found_16 : decode c_L_found 16 = .ok (.ireturn, 1) := by decide +kernel
theorem d_L_found_17 : decode c_L_found 17 = .ok (.iconst 0, 1) := by decide +kernel
theorem d_L_found_18 : decode c_L_found 18 = .ok (.ireturn, 1) := by decide +kernel
def t_L_found (l : Launch) (s0 : State) (D : va_G) (ca : Nat → ClassId) (hdl : Nat → Option Nat) (d mc ms : Nat) : List (Nat × cr_T) := [(0, cr_aload 3 1),
  (1, cr_push (.int 0) 2),
  (2, cr_aload 0 3),
  (3, cr_iload 1 4),
  (4, cr_iload 2 5),
  (5, cr_calVh D kc l (cr_W0 s0) s0.heap.size 0 y_C_found cw_C_found hdl d mc ms 2 5 8),
  (8, cr_i2l 9),
  (9, cr_last D kc s0.heap.size (ca 1) 10),
  (10, cr_goto 17),
  (13, cr_astore 4 15),
  (15, cr_push (.int 1) 16),
  (16, cr_iret mc ms),
  (17, cr_push (.int 0) 18),
  (18, cr_iret mc ms)]
theorem u_L_found {s0 : State} {D : va_G} {ca : Nat → ClassId} {e0 : Nat} (Z : cr_Z0 s0 D ca e0) : ∀ V, cr_W0 s0 V → (cw_L_found).before #[] V = true ∧ (Cond.initialized (y_L_found).cls).before #[] V = true := fun V hU => ⟨cr_w Z w_804 rfl hU #[], cr_w Z w_0 rfl hU #[]⟩
set_option maxHeartbeats 4000000 in
set_option maxRecDepth 20000 in
theorem s_L_found {p : Program} {l : Launch} {e : Env} {R : Room} {s : State} {m : MethodId} {args : Array Value} {below : List Frame} {meth : Method} {c : Code} {s0 : State} {D : va_G} {ca : Nat → ClassId} {e0 d mc ms : Nat} {Q : cr_Q} {hdl : Nat → Option Nat} (Z : cr_Z0 s0 D ca e0) (C : cr_C p R s m meth c (cr_W0 s0) s0.heap.size y_L_found c_L_found 5 (Option.some FieldType.int) d mc ms)
    (hcat : ∀ kd hp (cell : Cell), hdl kd = some hp → s.vm.findClass (cr_ex kd) = some cell.cls → ∀ {T' : State} {locs' : List Loc} {k' n' : Nat}, Stand p l e R s m args below meth c T' locs' k' n' → ∃ pre x rest, c.exceptionTable.toList = pre ++ x :: rest ∧ (∀ y ∈ pre, ct_P e.platform s m.cls 5 cell.cls y) ∧ covers x 5 = true ∧ ct_K e.platform s m.cls cell.cls x ∧ x.handlerPc = hp) :
    ∀ x ∈ t_L_found l s0 D ca hdl d mc ms, cr_Snd p l e R s m args below meth c s0.heap.size mc ms Q x.1 x.2 := by
  obtain ⟨hx, hb, hml, hown, hr, hlk, hnm, hU, hlo, hR⟩ := C
  have hK := cr_Z0K Z hU
  have hRc : R.cells = mc := by rw [hR]; rfl
  have hRs : R.slots = ms := by rw [hR]; rfl
  unfold t_L_found
  refine cr_cons (cr_aload_n_ok hx hb d_L_found_0 rfl rfl) ?_
  refine cr_cons (cr_iconst_ok hx hb d_L_found_1 (by decide) rfl) ?_
  refine cr_cons (cr_aload_n_ok hx hb d_L_found_2 rfl rfl) ?_
  refine cr_cons (cr_iload_n_ok hx hb d_L_found_3 rfl rfl) ?_
  refine cr_cons (cr_iload_n_ok hx hb d_L_found_4 rfl rfl) ?_
  refine cr_cons (cr_calVh_ok (C := R_C) (Tf := T_C) (N := 10) hx hb hml hown hU hlo hR (cr_W0_st s0) hcat hK rfl (u_C_found Z) (cr_w Z w_805 rfl hU args) (cr_w Z w_806 rfl hU args) (cr_w Z w_807 rfl hU args) (by decide) (by decide +kernel) (by decide) d_L_found_5 rfl) ?_
  refine cr_cons (cr_i2l_ok hx hb d_L_found_8 rfl) ?_
  refine cr_cons (cr_last_ok (t0 := 1) hx hb hK rfl d_L_found_9 rfl) ?_
  refine cr_cons (cr_goto_ok hx hb d_L_found_10 (by decide)) ?_
  refine cr_cons (cr_astore_ok hx hb d_L_found_13 rfl) ?_
  refine cr_cons (cr_iconst_ok hx hb d_L_found_15 (by decide) rfl) ?_
  refine cr_cons (cr_iret_ok hx hb hr hlk d_L_found_16) ?_
  refine cr_cons (cr_iconst_ok hx hb d_L_found_17 (by decide) rfl) ?_
  refine cr_cons (cr_iret_ok hx hb hr hlk d_L_found_18) ?_
  exact cr_nil
section ROWS
variable {p : Program} {l : Launch} {e : Env} {R : Room} {s : State} {m : MethodId} {args : Array Value} {below : List Frame} {meth : Method} {c : Code} {s0 : State} {D : va_G} {ca : Nat → ClassId} {e0 : Nat}
theorem rw_self {a C : String} {v : State} {k : ClassId} (h : (Cond.castable C C).before #[] v = true) (hk : v.vm.findClass C = some k) : v.vm.assignable k k = true := by
  obtain ⟨c, t, h1, h2, h3⟩ := Cond.castable_spec h
  cases hk.symm.trans h1
  cases hk.symm.trans h2
  exact h3
theorem rw_map {α β : Type} {f : α → β} : ∀ {xs : List α} {y : β} {ys : List β}, xs.map f = y :: ys → ∃ x t, xs = x :: t ∧ f x = y ∧ t.map f = ys
  | [], _, _, h => by cases h
  | x :: t, y, ys, h => by
    simp only [List.map_cons, List.cons.injEq] at h
    exact ⟨x, t, rfl, h.1, h.2⟩
theorem cr_rows2 (Z : cr_Z0 s0 D ca e0) (hN : cr_No s0) (hU : cr_W0 s0 s) (hown : s.vm.findClass "CardRightsLaw" = some m.cls) {en h1 h2 pc : Nat} (hpc : pc < en)
    (ht : c.exceptionTable.toList.map (fun h => (h.startPc, h.endPc, h.handlerPc, h.catchType)) = [(0, en, h1, 13), (0, en, h2, 15)]) :
    ∀ kd hp (cell : Cell), hd2 h1 h2 kd = some hp → s.vm.findClass (cr_ex kd) = some cell.cls → ∀ {T' : State} {locs' : List Loc} {k' n' : Nat}, Stand p l e R s m args below meth c T' locs' k' n' → ∃ pre x rest, c.exceptionTable.toList = pre ++ x :: rest ∧ (∀ y ∈ pre, ct_P e.platform s m.cls pc cell.cls y) ∧ covers x pc = true ∧ ct_K e.platform s m.cls cell.cls x ∧ x.handlerPc = hp := by
  intro kd hp cell hk hf T' locs' k' n' X
  obtain ⟨x1, t1, e1, f1, g1⟩ := rw_map ht
  obtain ⟨x2, t2, e2, f2, g2⟩ := rw_map g1
  cases t2 with
  | cons z zs => cases g2
  | nil =>
    subst e2
    simp only [Prod.mk.injEq] at f1 f2
    obtain ⟨a1, a2, a3, a4⟩ := f1
    obtain ⟨b1, b2, b3, b4⟩ := f2
    have v1 : covers x1 pc = true := by simp [covers, a1, a2, hpc]
    have v2 : covers x2 pc = true := by simp [covers, b1, b2, hpc]
    unfold hd2 at hk
    by_cases q1 : kd = 1
    · rw [if_pos q1] at hk
      cases hk
      have hf1 : s.vm.findClass "java/lang/IllegalArgumentException" = some cell.cls := by rw [q1] at hf; exact hf
      exact ⟨[], x1, [x2], e1, fun y hy => absurd hy List.not_mem_nil, v1, (ct_of_link X hown (by rw [a4]; decide) (by rw [a4]; exact cr_w Z w_258 rfl hU args) hf1 (rw_self (a := "") (cr_w Z w_269 rfl hU #[]) hf1)), a3⟩
    · rw [if_neg q1] at hk
      by_cases q2 : kd = 2
      · rw [if_pos q2] at hk
        cases hk
        have hf2 : s.vm.findClass "java/lang/IllegalStateException" = some cell.cls := by rw [q2] at hf; exact hf
        obtain ⟨a0, hN⟩ := hN
        refine ⟨[x1], x2, [], e1, fun y hy => ?_, v2, (ct_of_link X hown (by rw [b4]; decide) (by rw [b4]; exact cr_w Z w_259 rfl hU args) hf2 (rw_self (a := "") (cr_w Z w_336 rfl hU #[]) hf2)), b3⟩
        rw [List.mem_singleton] at hy
        subst hy
        have hal := hU.alike
        obtain ⟨c9, hc9, hcl⟩ := Cond.classLink_spec (s := s) hown (by exact cr_w Z w_258 rfl hU args) e.platform (by rw [X.admits.platform])
        have g2 : s0.vm.findClass "java/lang/IllegalStateException" = some cell.cls := by rw [hal.findClass] at hf2; exact hf2
        have g1 : s0.vm.findClass "java/lang/IllegalArgumentException" = some c9 := by rw [hal.findClass] at hc9; exact hc9
        have hv := Cond.holds_not_iff.mp hN
        simp only [Cond.value, g2, g1] at hv
        exact Or.inr ⟨by rw [a4]; decide, c9, by rw [a4]; exact hcl, by rw [hal.assignable]; exact Option.some.inj hv⟩
      · rw [if_neg q2] at hk
        cases hk
theorem cr_rows1 (Z : cr_Z0 s0 D ca e0) (hU : cr_W0 s0 s) (hown : s.vm.findClass "CardRightsLaw" = some m.cls) {en h1 pc : Nat} (hpc : pc < en)
    (ht : c.exceptionTable.toList.map (fun h => (h.startPc, h.endPc, h.handlerPc, h.catchType)) = [(0, en, h1, 13)]) :
    ∀ kd hp (cell : Cell), hd1 h1 kd = some hp → s.vm.findClass (cr_ex kd) = some cell.cls → ∀ {T' : State} {locs' : List Loc} {k' n' : Nat}, Stand p l e R s m args below meth c T' locs' k' n' → ∃ pre x rest, c.exceptionTable.toList = pre ++ x :: rest ∧ (∀ y ∈ pre, ct_P e.platform s m.cls pc cell.cls y) ∧ covers x pc = true ∧ ct_K e.platform s m.cls cell.cls x ∧ x.handlerPc = hp := by
  intro kd hp cell hk hf T' locs' k' n' X
  obtain ⟨x1, t1, e1, f1, g1⟩ := rw_map ht
  cases t1 with
  | cons z zs => cases g1
  | nil =>
    simp only [Prod.mk.injEq] at f1
    obtain ⟨a1, a2, a3, a4⟩ := f1
    have v1 : covers x1 pc = true := by simp [covers, a1, a2, hpc]
    unfold hd1 at hk
    by_cases q1 : kd = 1
    · rw [if_pos q1] at hk
      cases hk
      have hf1 : s.vm.findClass "java/lang/IllegalArgumentException" = some cell.cls := by rw [q1] at hf; exact hf
      exact ⟨[], x1, [], e1, fun y hy => absurd hy List.not_mem_nil, v1, (ct_of_link X hown (by rw [a4]; decide) (by rw [a4]; exact cr_w Z w_258 rfl hU args) hf1 (rw_self (a := "") (cr_w Z w_269 rfl hU #[]) hf1)), a3⟩
    · rw [if_neg q1] at hk
      cases hk
end ROWS
